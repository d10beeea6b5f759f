def mRec (n x : Int32) : Int32 := if x < 0 then 0 else if n ≤ x then 0 else 1
theorem mRec01 (n x : Int32) : mRec n x = 0 ∨ mRec n x = 1 := by
  unfold mRec; (repeat' split) <;> first | exact Or.inl rfl | exact Or.inr rfl
theorem jrec_iff (n x : Int32) : jrec n x ↔ ¬ mRec n x = 0 := by
  unfold jrec mRec
  by_cases h : x < 0
  · simp [h]
  · by_cases h2 : n ≤ x
    · simp [h, h2]
    · have h3 : x < n := Int32.not_le.mp h2
      simp [h, h2, h3]
def mPl (n : Int32) (LN : Nat → Int32) (x ps : Int32) : Int32 := if mRec n x = 0 then 0 else if ps < 0 then 0 else if LN x.toNatClampNeg ≤ ps then 0 else 1
theorem mPl01 (n : Int32) (LN : Nat → Int32) (x ps : Int32) : mPl n LN x ps = 0 ∨ mPl n LN x ps = 1 := by
  unfold mPl; (repeat' split) <;> first | exact Or.inl rfl | exact Or.inr rfl
theorem mPl_inv {n : Int32} {LN : Nat → Int32} {x ps : Int32} (h : ¬ mPl n LN x ps = 0) : ¬ mRec n x = 0 ∧ ¬ ps < 0 ∧ ¬ LN x.toNatClampNeg ≤ ps := by
  unfold mPl at h
  by_cases q1 : mRec n x = 0
  · rw [if_pos q1] at h; exact absurd rfl h
  rw [if_neg q1] at h
  by_cases q2 : ps < 0
  · rw [if_pos q2] at h; exact absurd rfl h
  rw [if_neg q2] at h
  by_cases q3 : LN x.toNatClampNeg ≤ ps
  · rw [if_pos q3] at h; exact absurd rfl h
  exact ⟨q1, q2, q3⟩
theorem jpos_iff (tk ps : Int32) : jpos tk ps.toInt64 ↔ ¬ ps < 0 ∧ ¬ tk ≤ ps := by
  unfold jpos
  rw [lg_cmp_lt, lg_cmp_lt, Int64.lt_iff_toInt_lt, Int64.lt_iff_toInt_lt, Int32.toInt_toInt64, Int32.toInt_toInt64, Int32.lt_iff_toInt_lt, Int32.le_iff_toInt_le]
  have h0 : (0 : Int64).toInt = 0 := by decide
  have h1 : (0 : Int32).toInt = 0 := by decide
  rw [h0, h1]
  omega
theorem eVal_m (n : Int32) (LN : Nat → Int32) (x ps ch : Int32) : eVal n x (LN x.toNatClampNeg) ps ch = if mPl n LN x ps = 0 then 1 else if mIn ch 0 1 = 0 then 2 else 0 := by
  unfold eVal mPl
  simp only [jrec_iff, jpos_iff, jin_iff]
  by_cases h1 : mRec n x = 0
  · simp [h1, jI]
  · by_cases h2 : ps < 0
    · simp [h1, h2, jI]
    · by_cases h3 : LN x.toNatClampNeg ≤ ps
      · simp [h1, h2, h3, jI]
      · by_cases h4 : mIn ch 0 1 = 0 <;> simp [h1, h2, h3, h4, jI]
def lenOK (LN : Nat → Int32) (m : Nat) : Prop := ∀ i, i < m → ∃ k : Nat, LN i = nI k ∧ 1 ≤ k ∧ k ≤ 49
def mcol (CU : Nat → Int32) (r ch : Nat) : Nat → Int32 := fun j => CU (98 * r + 49 * ch + j)
theorem eGrp_a {n x tk ch sz g : Int32} (h : ¬ (jin ch 0 1 ∧ jin sz 1 16)) : eGrp n x tk ch sz g = 1 := jI_f h
theorem eGrp_b {n x tk ch sz g : Int32} (h : jin ch 0 1 ∧ jin sz 1 16) (h2 : ¬ jrec n x) : eGrp n x tk ch sz g = 2 := (jI_t h).trans (jI_f h2)
theorem eGrp_c {n x tk ch sz g : Int32} (h : jin ch 0 1 ∧ jin sz 1 16) (h2 : jrec n x) (h3 : ¬ jpos tk (sz.toInt64 * g.toInt64)) : eGrp n x tk ch sz g = 2 := (jI_t h).trans ((jI_t h2).trans (jI_f h3))
theorem eGrp_d {n x tk ch sz g : Int32} (h : jin ch 0 1 ∧ jin sz 1 16) (h2 : jrec n x) (h3 : jpos tk (sz.toInt64 * g.toInt64)) : eGrp n x tk ch sz g = 0 := (jI_t h).trans ((jI_t h2).trans (jI_t h3))
theorem eGrp_inv {n x tk ch sz g : Int32} (h : eGrp n x tk ch sz g = 0) : (jin ch 0 1 ∧ jin sz 1 16) ∧ jrec n x ∧ jpos tk (sz.toInt64 * g.toInt64) := by
  by_cases h1 : jin ch 0 1 ∧ jin sz 1 16
  · by_cases h2 : jrec n x
    · by_cases h3 : jpos tk (sz.toInt64 * g.toInt64)
      · exact ⟨h1, h2, h3⟩
      · rw [eGrp_c h1 h2 h3] at h; exact absurd h (by decide)
    · rw [eGrp_b h1 h2] at h; exact absurd h (by decide)
  · rw [eGrp_a h1] at h; exact absurd h (by decide)
theorem grp_iff {g : Int32} {s k : Nat} (hs : 1 ≤ s) (hs2 : s ≤ 16) (hk1 : 1 ≤ k) (hk : k ≤ 49) : jpos (nI k) ((nI s).toInt64 * g.toInt64) ↔ ¬ g < 0 ∧ g ≤ nI ((k - 1) / s) := by
  constructor
  · intro h
    obtain ⟨j, hj, rfl⟩ := jpos_grp h hs hs2 hk
    have h1 : j ≤ (k - 1) / s := (Nat.le_div_iff_mul_le hs).mpr (by rw [Nat.mul_comm]; omega)
    have h2 : (k - 1) / s ≤ k - 1 := Nat.div_le_self _ _
    exact ⟨nI_pos (by omega), nI_le h1 (by omega)⟩
  · rintro ⟨h1, h2⟩
    obtain ⟨j, hj, rfl⟩ := nI_of h1
    have h3 : (k - 1) / s ≤ k - 1 := Nat.div_le_self _ _
    have h4 := (nI_leI hj (by omega)).mp h2
    have h5 : j * s ≤ k - 1 := (Nat.le_div_iff_mul_le hs).mp h4
    rw [Nat.mul_comm] at h5
    have e : ((nI s).toInt64 * (nI j).toInt64).toInt = (s * j : Nat) := by
      rw [Int64.toInt_mul, Int32.toInt_toInt64, Int32.toInt_toInt64, nI_T (n := s) (by omega), nI_T (n := j) (by omega)]
      have : ((s : Int) * (j : Int)) = ((s * j : Nat) : Int) := by push_cast; rfl
      rw [this]
      apply Int.bmod_eq_of_le <;> omega
    unfold jpos
    rw [lg_cmp_lt, lg_cmp_lt, Int64.lt_iff_toInt_lt, Int64.lt_iff_toInt_lt, e, Int32.toInt_toInt64, nI_T (n := k) (by omega)]
    have h0 : (0 : Int64).toInt = 0 := by decide
    rw [h0]
    omega
theorem jmin_ge {x y : Int32} (h : x ≤ y) : jmin x y = x := if_neg (Int32.not_lt.mpr h)
theorem jmin_lt {x y : Int32} (h : ¬ x ≤ y) : jmin x y = y := if_pos (Int32.not_le.mp h)
theorem jmax_ge {x y : Int32} (h : y ≤ x) : jmax x y = x := if_neg (Int32.not_lt.mpr h)
theorem jmax_lt {x y : Int32} (h : ¬ y ≤ x) : jmax x y = y := if_pos (Int32.not_le.mp h)
def mLow (CU LN : Nat → Int32) (x ch sz g : Int32) : Int32 := jlo (mcol CU x.toNatClampNeg ch.toNatClampNeg) (grpN (LN x.toNatClampNeg) sz g) (sz.toNatClampNeg * g.toNatClampNeg) 127
def mHigh (CU LN : Nat → Int32) (x ch sz g : Int32) : Int32 := jhi (mcol CU x.toNatClampNeg ch.toNatClampNeg) (grpN (LN x.toNatClampNeg) sz g) (sz.toNatClampNeg * g.toNatClampNeg) (-128)
def mMean (CU LN : Nat → Int32) (x ch sz g : Int32) : Int32 := jsum (fun j => mcol CU x.toNatClampNeg ch.toNatClampNeg j + 128) (grpN (LN x.toNatClampNeg) sz g) (sz.toNatClampNeg * g.toNatClampNeg) 0 / nI (grpN (LN x.toNatClampNeg) sz g) - 128
/-- a look at the first i samples of a record by a condition that has begun anew -/
def mscG (CU : Nat → Int32) (r : Nat) (R : Nat → Int32) : Nat → (Nat → Int32)
  | 0 => mBegins R
  | i + 1 => mG (mscG CU r R i) (mcol CU r 0 i) (mcol CU r 1 i)
def mscS (CU : Nat → Int32) (r : Nat) (R : Nat → Int32) : Nat → Int32
  | 0 => 0
  | i + 1 => mscS CU r R i + m01 (mR (mscG CU r R i) (mcol CU r 0 i) (mcol CU r 1 i))
theorem mBool_b {R : Nat → Int32} (h : mBool R) : mBool (mBegins R) := by
  unfold mBegins
  exact mBool_u (mBool_u (mBool_u (mBool_u (mBool_u (mBool_u (mBool_u h 6 0 (Or.inr (Or.inl rfl))) 9 0 (Or.inr (Or.inl rfl))) 10 0 (Or.inr (Or.inl rfl))) 12 0 (Or.inr (Or.inl rfl))) 13 0 (Or.inr (Or.inl rfl))) 14 0 (Or.inr (Or.inl rfl))) 16 0 (Or.inr (Or.inl rfl))
theorem mscG_bool {R : Nat → Int32} (h : mBool R) (CU : Nat → Int32) (r i : Nat) : mBool (mscG CU r R i) := by
  induction i with
  | zero => exact mBool_b h
  | succ i ih => exact mBool_G ih _ _
def mRest (R X : Nat → Int32) : Nat → Int32 := upd (upd (upd (upd (upd (upd (upd (upd (upd (upd X 6 (R 6)) 7 (R 7)) 8 (R 8)) 9 (R 9)) 10 (R 10)) 12 (R 12)) 13 (R 13)) 14 (R 14)) 15 (R 15)) 16 (R 16)
theorem jr_zast {p : Program} {l : Launch} {e : Env} {R : Room} {s : State} {m : MethodId} {args : Array Value} {below : List Frame} {meth : Method} {c : Code} {D : va_G} {t : Nat → ClassId} {A : Nat → Prop} {own : String} {cc : ByteArray} {nL : Nat} {Q : State → Prop} {ws : va_W} {lv : List (Nat × Value)} {pc : Nat} {rest : List Value} {k n : Nat} {a n9 : Nat} {i : Int32} {x : Int32} {f : Nat → Int32} (C : jC p l s m args c D t A own cc nL) (hd : decode cc pc = .ok (.bastore, 1)) (q0 : Nat) (ha : ws[q0]? = some (a, .inl (t 3, n9, .inl f))) (hin : vp_in i n9) (k9 : J p l e R s m args below meth c D A nL Q (ws.set q0 (a, .inl (t 3, n9, .inl (upd f i.toNatClampNeg (vp_nar .boolean x))))) lv (pc + 1) rest k n) : J p l e R s m args below meth c D A nL Q ws lv pc (.int x :: .int i :: .ref a :: rest) k n := fun H locs ls hP hD hS hl => va_zast C.1 C.2.1 C.2.2.2.2.2.1 hP hD hS q0 3 ha rfl hin hd (fun H1 l1 hP1 hD1 hS1 => k9 H1 l1 ls hP1 hD1 hS1 hl)
theorem jr_zastN {p : Program} {l : Launch} {e : Env} {R : Room} {s : State} {m : MethodId} {args : Array Value} {below : List Frame} {meth : Method} {c : Code} {D : va_G} {t : Nat → ClassId} {A : Nat → Prop} {own : String} {cc : ByteArray} {nL : Nat} {Q : State → Prop} {ws : va_W} {lv : List (Nat × Value)} {pc : Nat} {rest : List Value} {k n : Nat} {a n9 : Nat} {i : Int32} {x : Int32} {f : Nat → Int32} (C : jC p l s m args c D t A own cc nL) (hd : decode cc pc = .ok (.bastore, 1)) (q0 j : Nat) (ha : ws[q0]? = some (a, .inl (t 3, n9, .inl f))) (hi : i = nI j) (hj : j < n9) (hn : n9 < 2147483648) (hx : vp_nar .boolean x = x) (k9 : J p l e R s m args below meth c D A nL Q (ws.set q0 (a, .inl (t 3, n9, .inl (upd f j x)))) lv (pc + 1) rest k n) : J p l e R s m args below meth c D A nL Q ws lv pc (.int x :: .int i :: .ref a :: rest) k n := by
  subst hi
  refine jr_zast C hd q0 ha (vp_in_nI hj hn) ?_
  rw [nI_clamp (Nat.lt_trans hj hn), hx]
  exact k9
set_option maxHeartbeats 8000000 in
set_option maxRecDepth 100000 in
theorem k_X11_isRecord (l : Launch) (t : Nat → ClassId) (hfl : l.stackTraces = false) (m0 : Nat) (mb : Nat → Nat) (R : Nat → Int32) (x : Int32) : jKx l t yX11_isRecord (Cond.code yX11_isRecord cX11_isRecord 2 (some .boolean) :: jWS) { frames := 0, cells := 0, slots := 0, locals := 0 } [.ref m0, .int x] [(m0, .inr (10, jmdl R mb))] (fun vv uu => (vv = some (.int (mRec (R 28) x)) ∧ uu = [(m0, .inr (10, jmdl R mb))])) (fun _ _ => False) := by
  refine jK_of hfl (by decide +kernel) (Nat.le_of_ble_eq_true rfl) ?_
  intro p e s m args below meth c D A Q CC MM
  refine jr_norm0 [(0, .ref m0), (1, .int x)] rfl ?_
  refine jr_iload_n CC (jd ddX11_isRecord 0 rfl) 1 rfl ?_
  refine jr_if_lt 16 CC (jd ddX11_isRecord 1 rfl) (by decide) (fun c1 => ?_) (fun c1 => ?_)
  · refine jr_iconst (v := 0) CC (jd ddX11_isRecord 8 rfl) (by decide) ?_
    exact jr_zret rfl CC MM (jd ddX11_isRecord 9 rfl) rfl (by decide) (by decide) ⟨by simp [mRec, c1], rfl⟩
  · refine jr_iload_n CC (jd ddX11_isRecord 2 rfl) 1 rfl ?_
    refine jr_aload_n CC (jd ddX11_isRecord 3 rfl) 0 rfl ?_
    refine jr_get (v := .int (R 28)) CC (jd ddX11_isRecord 4 rfl) (jf_X11_147 CC) 0 rfl rfl ?_
    refine jr_icmp_ge 16 CC (jd ddX11_isRecord 5 rfl) (by decide) (fun c2 => ?_) (fun c2 => ?_)
    · refine jr_iconst (v := 0) CC (jd ddX11_isRecord 8 rfl) (by decide) ?_
      exact jr_zret rfl CC MM (jd ddX11_isRecord 9 rfl) rfl (by decide) (by decide) ⟨by simp [mRec, c1, c2], rfl⟩
    · refine jr_iconst (v := 1) CC (jd ddX11_isRecord 6 rfl) (by decide) ?_
      refine jr_goto 17 CC (jd ddX11_isRecord 7 rfl) (by decide) ?_
      exact jr_zret rfl CC MM (jd ddX11_isRecord 9 rfl) rfl (by decide) (by decide) ⟨by simp [mRec, c1, c2], rfl⟩
set_option maxHeartbeats 8000000 in
set_option maxRecDepth 100000 in
theorem k_X11_trigger (l : Launch) (t : Nat → ClassId) (hfl : l.stackTraces = false) (m0 : Nat) (mb : Nat → Nat) (R : Nat → Int32) (TG : Nat → Int32) (m8 : Nat) (x : Int32) (h28 : R 28 = nI m8) (hm8 : m8 ≤ 8) : jKx l t yX11_trigger (Cond.code yX11_trigger cX11_trigger 2 (some .int) :: jWS) { frames := 1, cells := 0, slots := 0, locals := 21 } [.ref m0, .int x] [(m0, .inr (10, jmdl R mb)), ((mb 4), .inl (t 0, 8, .inl TG))] (fun vv uu => (((eRec (R 28) x) = 0) ∧ vv = some (.int (TG x.toNatClampNeg)) ∧ uu = [(m0, .inr (10, jmdl (upd R 44 0) mb)), ((mb 4), .inl (t 0, 8, .inl TG))]) ∨ (((eRec (R 28) x) = 1) ∧ vv = some (.int 0) ∧ uu = [(m0, .inr (10, jmdl (upd R 44 1) mb)), ((mb 4), .inl (t 0, 8, .inl TG))])) (fun _ _ => False) := by
  refine jK_of hfl (by decide +kernel) (Nat.le_of_ble_eq_true rfl) ?_
  intro p e s m args below meth c D A Q CC MM
  refine jr_norm0 [(0, .ref m0), (1, .int x)] rfl ?_
  refine jr_aload_n CC (jd ddX11_trigger 0 rfl) 0 rfl ?_
  refine jr_aload_n CC (jd ddX11_trigger 1 rfl) 0 rfl ?_
  refine jr_iload_n CC (jd ddX11_trigger 2 rfl) 1 rfl ?_
  refine jr_callV (q0 := 0) (rest := [.ref m0]) [.int x] CC (jd ddX11_trigger 3 rfl) (jy_X11_189 CC) (k_X11_isRecord l t hfl m0 mb R x) [0] rfl (by decide) rfl rfl rfl rfl (by decide) (Nat.le_of_ble_eq_true rfl) (by rintro v u h; rcases h with ⟨rfl, rfl⟩ <;> exact (show ([m0] : List Nat) = [m0] from rfl)) (fun _ _ h => h.elim) (fun _ _ h => h.elim) (fun v u h => ?_)
  rcases h with ⟨rfl, rfl⟩
  refine jr_norm [(m0, .inr (10, jmdl R mb)), ((mb 4), .inl (t 0, 8, .inl TG))] [.int (mRec (R 28) x), .ref m0] 6 0 0 rfl rfl rfl rfl rfl ?_
  refine jr_if_eq 13 CC (jd ddX11_trigger 4 rfl) (by decide) (fun c1 => ?_) (fun c1 => ?_)
  · refine jr_iconst (v := 1) CC (jd ddX11_trigger 7 rfl) (by decide) ?_
    refine jr_callV (q0 := 0) (rest := []) [.int 1] CC (jd ddX11_trigger 8 rfl) (jy_X11_111 CC) (k_X11_fails_1 l t hfl m0 mb R) [0] rfl (by decide) rfl rfl rfl rfl (by decide) (Nat.le_of_ble_eq_true rfl) (by rintro v u h; rcases h with ⟨rfl, rfl⟩ <;> exact (show ([m0] : List Nat) = [m0] from rfl)) (fun _ _ h => h.elim) (fun _ _ h => h.elim) (fun v u h => ?_)
    rcases h with ⟨rfl, rfl⟩
    refine jr_norm [(m0, .inr (10, jmdl (upd R 44 1) mb)), ((mb 4), .inl (t 0, 8, .inl TG))] [.int 1] 17 0 0 rfl rfl rfl rfl rfl ?_
    refine jr_if_eq 24 CC (jd ddX11_trigger 9 rfl) (by decide) (fun h => absurd h (by decide)) (fun _ => ?_)
    refine jr_iconst (v := 0) CC (jd ddX11_trigger 10 rfl) (by decide) ?_
    refine jr_goto 30 CC (jd ddX11_trigger 11 rfl) (by decide) ?_
    exact jr_iret CC MM (jd ddX11_trigger 16 rfl) rfl (by decide) (by decide) (Or.inr ⟨by simp [eRec, jrec_iff, jI, jin_iff, c1], rfl, rfl⟩)
  · refine jr_iconst (v := 0) CC (jd ddX11_trigger 5 rfl) (by decide) ?_
    refine jr_goto 14 CC (jd ddX11_trigger 6 rfl) (by decide) ?_
    refine jr_callV (q0 := 0) (rest := []) [.int 0] CC (jd ddX11_trigger 8 rfl) (jy_X11_111 CC) (k_X11_fails_0 l t hfl m0 mb R) [0] rfl (by decide) rfl rfl rfl rfl (by decide) (Nat.le_of_ble_eq_true rfl) (by rintro v u h; rcases h with ⟨rfl, rfl⟩ <;> exact (show ([m0] : List Nat) = [m0] from rfl)) (fun _ _ h => h.elim) (fun _ _ h => h.elim) (fun v u h => ?_)
    rcases h with ⟨rfl, rfl⟩
    refine jr_norm [(m0, .inr (10, jmdl (upd R 44 0) mb)), ((mb 4), .inl (t 0, 8, .inl TG))] [.int 0] 17 0 0 rfl rfl rfl rfl rfl ?_
    refine jr_if_eq 24 CC (jd ddX11_trigger 9 rfl) (by decide) (fun _ => ?_) (fun h => absurd h (by decide))
    obtain ⟨r, hr, rfl⟩ := jrec_nat (h28 ▸ ((jrec_iff _ _).mpr c1)) hm8
    have ntr : (nI r).toNatClampNeg = r := nI_tn (by omega)
    refine jr_aload_n CC (jd ddX11_trigger 12 rfl) 0 rfl ?_
    refine jr_get (v := .ref (mb 4)) CC (jd ddX11_trigger 13 rfl) (jf_X11_36 CC) 0 rfl rfl ?_
    refine jr_iload_n CC (jd ddX11_trigger 14 rfl) 1 rfl ?_
    refine jr_ialdN CC (jd ddX11_trigger 15 rfl) 1 r rfl rfl (by omega) (by decide) ?_
    exact jr_iret CC MM (jd ddX11_trigger 16 rfl) rfl (by decide) (by decide) (Or.inl ⟨by simp [eRec, jrec_iff, jI, jin_iff, c1], by rw [ntr], rfl⟩)
set_option maxHeartbeats 8000000 in
set_option maxRecDepth 100000 in
theorem k_X11_length (l : Launch) (t : Nat → ClassId) (hfl : l.stackTraces = false) (m0 : Nat) (mb : Nat → Nat) (R : Nat → Int32) (LN : Nat → Int32) (m8 : Nat) (x : Int32) (h28 : R 28 = nI m8) (hm8 : m8 ≤ 8) : jKx l t yX11_length (Cond.code yX11_length cX11_length 2 (some .int) :: jWS) { frames := 1, cells := 0, slots := 0, locals := 21 } [.ref m0, .int x] [(m0, .inr (10, jmdl R mb)), ((mb 3), .inl (t 0, 8, .inl LN))] (fun vv uu => (((eRec (R 28) x) = 0) ∧ vv = some (.int (LN x.toNatClampNeg)) ∧ uu = [(m0, .inr (10, jmdl (upd R 44 0) mb)), ((mb 3), .inl (t 0, 8, .inl LN))]) ∨ (((eRec (R 28) x) = 1) ∧ vv = some (.int 0) ∧ uu = [(m0, .inr (10, jmdl (upd R 44 1) mb)), ((mb 3), .inl (t 0, 8, .inl LN))])) (fun _ _ => False) := by
  refine jK_of hfl (by decide +kernel) (Nat.le_of_ble_eq_true rfl) ?_
  intro p e s m args below meth c D A Q CC MM
  refine jr_norm0 [(0, .ref m0), (1, .int x)] rfl ?_
  refine jr_aload_n CC (jd ddX11_length 0 rfl) 0 rfl ?_
  refine jr_aload_n CC (jd ddX11_length 1 rfl) 0 rfl ?_
  refine jr_iload_n CC (jd ddX11_length 2 rfl) 1 rfl ?_
  refine jr_callV (q0 := 0) (rest := [.ref m0]) [.int x] CC (jd ddX11_length 3 rfl) (jy_X11_189 CC) (k_X11_isRecord l t hfl m0 mb R x) [0] rfl (by decide) rfl rfl rfl rfl (by decide) (Nat.le_of_ble_eq_true rfl) (by rintro v u h; rcases h with ⟨rfl, rfl⟩ <;> exact (show ([m0] : List Nat) = [m0] from rfl)) (fun _ _ h => h.elim) (fun _ _ h => h.elim) (fun v u h => ?_)
  rcases h with ⟨rfl, rfl⟩
  refine jr_norm [(m0, .inr (10, jmdl R mb)), ((mb 3), .inl (t 0, 8, .inl LN))] [.int (mRec (R 28) x), .ref m0] 6 0 0 rfl rfl rfl rfl rfl ?_
  refine jr_if_eq 13 CC (jd ddX11_length 4 rfl) (by decide) (fun c1 => ?_) (fun c1 => ?_)
  · refine jr_iconst (v := 1) CC (jd ddX11_length 7 rfl) (by decide) ?_
    refine jr_callV (q0 := 0) (rest := []) [.int 1] CC (jd ddX11_length 8 rfl) (jy_X11_111 CC) (k_X11_fails_1 l t hfl m0 mb R) [0] rfl (by decide) rfl rfl rfl rfl (by decide) (Nat.le_of_ble_eq_true rfl) (by rintro v u h; rcases h with ⟨rfl, rfl⟩ <;> exact (show ([m0] : List Nat) = [m0] from rfl)) (fun _ _ h => h.elim) (fun _ _ h => h.elim) (fun v u h => ?_)
    rcases h with ⟨rfl, rfl⟩
    refine jr_norm [(m0, .inr (10, jmdl (upd R 44 1) mb)), ((mb 3), .inl (t 0, 8, .inl LN))] [.int 1] 17 0 0 rfl rfl rfl rfl rfl ?_
    refine jr_if_eq 24 CC (jd ddX11_length 9 rfl) (by decide) (fun h => absurd h (by decide)) (fun _ => ?_)
    refine jr_iconst (v := 0) CC (jd ddX11_length 10 rfl) (by decide) ?_
    refine jr_goto 30 CC (jd ddX11_length 11 rfl) (by decide) ?_
    exact jr_iret CC MM (jd ddX11_length 16 rfl) rfl (by decide) (by decide) (Or.inr ⟨by simp [eRec, jrec_iff, jI, jin_iff, c1], rfl, rfl⟩)
  · refine jr_iconst (v := 0) CC (jd ddX11_length 5 rfl) (by decide) ?_
    refine jr_goto 14 CC (jd ddX11_length 6 rfl) (by decide) ?_
    refine jr_callV (q0 := 0) (rest := []) [.int 0] CC (jd ddX11_length 8 rfl) (jy_X11_111 CC) (k_X11_fails_0 l t hfl m0 mb R) [0] rfl (by decide) rfl rfl rfl rfl (by decide) (Nat.le_of_ble_eq_true rfl) (by rintro v u h; rcases h with ⟨rfl, rfl⟩ <;> exact (show ([m0] : List Nat) = [m0] from rfl)) (fun _ _ h => h.elim) (fun _ _ h => h.elim) (fun v u h => ?_)
    rcases h with ⟨rfl, rfl⟩
    refine jr_norm [(m0, .inr (10, jmdl (upd R 44 0) mb)), ((mb 3), .inl (t 0, 8, .inl LN))] [.int 0] 17 0 0 rfl rfl rfl rfl rfl ?_
    refine jr_if_eq 24 CC (jd ddX11_length 9 rfl) (by decide) (fun _ => ?_) (fun h => absurd h (by decide))
    obtain ⟨r, hr, rfl⟩ := jrec_nat (h28 ▸ ((jrec_iff _ _).mpr c1)) hm8
    have ntr : (nI r).toNatClampNeg = r := nI_tn (by omega)
    refine jr_aload_n CC (jd ddX11_length 12 rfl) 0 rfl ?_
    refine jr_get (v := .ref (mb 3)) CC (jd ddX11_length 13 rfl) (jf_X11_33 CC) 0 rfl rfl ?_
    refine jr_iload_n CC (jd ddX11_length 14 rfl) 1 rfl ?_
    refine jr_ialdN CC (jd ddX11_length 15 rfl) 1 r rfl rfl (by omega) (by decide) ?_
    exact jr_iret CC MM (jd ddX11_length 16 rfl) rfl (by decide) (by decide) (Or.inl ⟨by simp [eRec, jrec_iff, jI, jin_iff, c1], by rw [ntr], rfl⟩)
set_option maxHeartbeats 8000000 in
set_option maxRecDepth 100000 in
theorem k_X11_isPlace (l : Launch) (t : Nat → ClassId) (hfl : l.stackTraces = false) (m0 : Nat) (mb : Nat → Nat) (R : Nat → Int32) (LN : Nat → Int32) (m8 : Nat) (x : Int32) (ps : Int32) (h28 : R 28 = nI m8) (hm8 : m8 ≤ 8) : jKx l t yX11_isPlace (Cond.code yX11_isPlace cX11_isPlace 3 (some .boolean) :: jWS) { frames := 1, cells := 0, slots := 0, locals := 21 } [.ref m0, .int x, .int ps] [(m0, .inr (10, jmdl R mb)), ((mb 3), .inl (t 0, 8, .inl LN))] (fun vv uu => (vv = some (.int (mPl (R 28) LN x ps)) ∧ uu = [(m0, .inr (10, jmdl R mb)), ((mb 3), .inl (t 0, 8, .inl LN))])) (fun _ _ => False) := by
  refine jK_of hfl (by decide +kernel) (Nat.le_of_ble_eq_true rfl) ?_
  intro p e s m args below meth c D A Q CC MM
  refine jr_norm0 [(0, .ref m0), (1, .int x), (2, .int ps)] rfl ?_
  refine jr_aload_n CC (jd ddX11_isPlace 0 rfl) 0 rfl ?_
  refine jr_iload_n CC (jd ddX11_isPlace 1 rfl) 1 rfl ?_
  refine jr_callV (q0 := 0) (rest := []) [.int x] CC (jd ddX11_isPlace 2 rfl) (jy_X11_189 CC) (k_X11_isRecord l t hfl m0 mb R x) [0] rfl (by decide) rfl rfl rfl rfl (by decide) (Nat.le_of_ble_eq_true rfl) (by rintro v u h; rcases h with ⟨rfl, rfl⟩ <;> exact (show ([m0] : List Nat) = [m0] from rfl)) (fun _ _ h => h.elim) (fun _ _ h => h.elim) (fun v u h => ?_)
  rcases h with ⟨rfl, rfl⟩
  refine jr_norm [(m0, .inr (10, jmdl R mb)), ((mb 3), .inl (t 0, 8, .inl LN))] [.int (mRec (R 28) x)] 5 0 0 rfl rfl rfl rfl rfl ?_
  refine jr_if_eq 26 CC (jd ddX11_isPlace 3 rfl) (by decide) (fun c1 => ?_) (fun c1 => ?_)
  · refine jr_iconst (v := 0) CC (jd ddX11_isPlace 14 rfl) (by decide) ?_
    exact jr_zret rfl CC MM (jd ddX11_isPlace 15 rfl) rfl (by decide) (by decide) ⟨by simp [mPl, c1], rfl⟩
  · refine jr_iload_n CC (jd ddX11_isPlace 4 rfl) 2 rfl ?_
    refine jr_if_lt 26 CC (jd ddX11_isPlace 5 rfl) (by decide) (fun c2 => ?_) (fun c2 => ?_)
    · refine jr_iconst (v := 0) CC (jd ddX11_isPlace 14 rfl) (by decide) ?_
      exact jr_zret rfl CC MM (jd ddX11_isPlace 15 rfl) rfl (by decide) (by decide) ⟨by simp [mPl, c1, c2], rfl⟩
    · obtain ⟨r, hr, rfl⟩ := jrec_nat (h28 ▸ ((jrec_iff _ _).mpr c1)) hm8
      have ntr : (nI r).toNatClampNeg = r := nI_tn (by omega)
      refine jr_iload_n CC (jd ddX11_isPlace 6 rfl) 2 rfl ?_
      refine jr_aload_n CC (jd ddX11_isPlace 7 rfl) 0 rfl ?_
      refine jr_get (v := .ref (mb 3)) CC (jd ddX11_isPlace 8 rfl) (jf_X11_33 CC) 0 rfl rfl ?_
      refine jr_iload_n CC (jd ddX11_isPlace 9 rfl) 1 rfl ?_
      refine jr_ialdN CC (jd ddX11_isPlace 10 rfl) 1 r rfl rfl (by omega) (by decide) ?_
      refine jr_icmp_ge 26 CC (jd ddX11_isPlace 11 rfl) (by decide) (fun c3 => ?_) (fun c3 => ?_)
      · refine jr_iconst (v := 0) CC (jd ddX11_isPlace 14 rfl) (by decide) ?_
        refine jr_pc (pc' := 27) rfl ?_
        exact jr_zret rfl CC MM (jd ddX11_isPlace 15 rfl) rfl (by decide) (by decide) ⟨by simp [mPl, c1, c2, c3, ntr], rfl⟩
      · refine jr_iconst (v := 1) CC (jd ddX11_isPlace 12 rfl) (by decide) ?_
        refine jr_pc (pc' := 23) rfl ?_
        refine jr_goto 27 CC (jd ddX11_isPlace 13 rfl) (by decide) ?_
        exact jr_zret rfl CC MM (jd ddX11_isPlace 15 rfl) rfl (by decide) (by decide) ⟨by simp [mPl, c1, c2, c3, ntr], rfl⟩
set_option maxHeartbeats 8000000 in
set_option maxRecDepth 100000 in
theorem k_X11_at (l : Launch) (t : Nat → ClassId) (hfl : l.stackTraces = false) (m0 : Nat) (mb : Nat → Nat) (R : Nat → Int32) (CU : Nat → Int32) (r : Nat) (ch : Nat) (j : Nat) (hr : r < 8) (hch : ch ≤ 1) (hj : j < 49) : jKx l t yX11_at (Cond.code yX11_at cX11_at 4 (some .int) :: jWS) { frames := 0, cells := 0, slots := 0, locals := 0 } [.ref m0, .int (nI r), .int (nI ch), .int (nI j)] [(m0, .inr (10, jmdl R mb)), ((mb 2), .inl (t 0, 784, .inl CU))] (fun vv uu => (vv = some (.int (mcol CU r ch j)) ∧ uu = [(m0, .inr (10, jmdl R mb)), ((mb 2), .inl (t 0, 784, .inl CU))])) (fun _ _ => False) := by
  refine jK_of hfl (by decide +kernel) (Nat.le_of_ble_eq_true rfl) ?_
  intro p e s m args below meth c D A Q CC MM
  refine jr_norm0 [(0, .ref m0), (1, .int (nI r)), (2, .int (nI ch)), (3, .int (nI j))] rfl ?_
  refine jr_aload_n CC (jd ddX11_at 0 rfl) 0 rfl ?_
  refine jr_get (v := .ref (mb 2)) CC (jd ddX11_at 1 rfl) (jf_X11_30 CC) 0 rfl rfl ?_
  refine jr_bipush (v := 98) CC (jd ddX11_at 2 rfl) (by decide) ?_
  refine jr_iload_n CC (jd ddX11_at 3 rfl) 1 rfl ?_
  refine jr_imul CC (jd ddX11_at 4 rfl) ?_
  refine jr_st [.int (nI (98 * r)), .ref (mb 2)] (jst1 (pk_mul 98 r)) ?_
  refine jr_bipush (v := 49) CC (jd ddX11_at 5 rfl) (by decide) ?_
  refine jr_iload_n CC (jd ddX11_at 6 rfl) 2 rfl ?_
  refine jr_imul CC (jd ddX11_at 7 rfl) ?_
  refine jr_st [.int (nI (49 * ch)), .int (nI (98 * r)), .ref (mb 2)] (jst1 (pk_mul 49 ch)) ?_
  refine jr_iadd CC (jd ddX11_at 8 rfl) ?_
  refine jr_st [.int (nI ((98 * r) + (49 * ch))), .ref (mb 2)] (jst1 (nI_add (98 * r) (49 * ch))) ?_
  refine jr_iload_n CC (jd ddX11_at 9 rfl) 3 rfl ?_
  refine jr_pc (pc' := 14) rfl ?_
  refine jr_iadd CC (jd ddX11_at 10 rfl) ?_
  refine jr_st [.int (nI (((98 * r) + (49 * ch)) + j)), .ref (mb 2)] (jst1 (nI_add ((98 * r) + (49 * ch)) j)) ?_
  refine jr_ialdN CC (jd ddX11_at 11 rfl) 1 (((98 * r) + (49 * ch)) + j) rfl rfl (by omega) (by decide) ?_
  exact jr_iret CC MM (jd ddX11_at 12 rfl) rfl (by decide) (by decide) ⟨rfl, rfl⟩
set_option maxHeartbeats 8000000 in
set_option maxRecDepth 100000 in
theorem k_X11_value (l : Launch) (t : Nat → ClassId) (hfl : l.stackTraces = false) (m0 : Nat) (mb : Nat → Nat) (R : Nat → Int32) (LN : Nat → Int32) (CU : Nat → Int32) (m8 : Nat) (x : Int32) (ch : Int32) (ps : Int32) (h28 : R 28 = nI m8) (hm8 : m8 ≤ 8) (hLN : lenOK LN m8) : jKx l t yX11_value (Cond.code yX11_value cX11_value 4 (some .int) :: jWS) { frames := 2, cells := 0, slots := 0, locals := 43 } [.ref m0, .int x, .int ch, .int ps] [(m0, .inr (10, jmdl R mb)), ((mb 3), .inl (t 0, 8, .inl LN)), ((mb 2), .inl (t 0, 784, .inl CU))] (fun vv uu => (((eVal (R 28) x (LN x.toNatClampNeg) ps ch) = 0) ∧ vv = some (.int (mcol CU x.toNatClampNeg ch.toNatClampNeg ps.toNatClampNeg)) ∧ uu = [(m0, .inr (10, jmdl (upd R 44 0) mb)), ((mb 3), .inl (t 0, 8, .inl LN)), ((mb 2), .inl (t 0, 784, .inl CU))]) ∨ (((eVal (R 28) x (LN x.toNatClampNeg) ps ch) = 1) ∧ vv = some (.int 0) ∧ uu = [(m0, .inr (10, jmdl (upd R 44 1) mb)), ((mb 3), .inl (t 0, 8, .inl LN)), ((mb 2), .inl (t 0, 784, .inl CU))]) ∨ (((eVal (R 28) x (LN x.toNatClampNeg) ps ch) = 2) ∧ vv = some (.int 0) ∧ uu = [(m0, .inr (10, jmdl (upd R 44 2) mb)), ((mb 3), .inl (t 0, 8, .inl LN)), ((mb 2), .inl (t 0, 784, .inl CU))])) (fun _ _ => False) := by
  refine jK_of hfl (by decide +kernel) (Nat.le_of_ble_eq_true rfl) ?_
  intro p e s m args below meth c D A Q CC MM
  refine jr_norm0 [(0, .ref m0), (1, .int x), (2, .int ch), (3, .int ps)] rfl ?_
  refine jr_aload_n CC (jd ddX11_value 0 rfl) 0 rfl ?_
  refine jr_aload_n CC (jd ddX11_value 1 rfl) 0 rfl ?_
  refine jr_iload_n CC (jd ddX11_value 2 rfl) 1 rfl ?_
  refine jr_iload_n CC (jd ddX11_value 3 rfl) 3 rfl ?_
  refine jr_callV (q0 := 0) (rest := [.ref m0]) [.int x, .int ps] CC (jd ddX11_value 4 rfl) (jy_X11_192 CC) (k_X11_isPlace l t hfl m0 mb R LN m8 x ps h28 hm8) [0, 1] rfl (by decide) rfl rfl rfl rfl (by decide) (Nat.le_of_ble_eq_true rfl) (by rintro v u h; rcases h with ⟨rfl, rfl⟩ <;> exact (show ([m0, (mb 3)] : List Nat) = [m0, (mb 3)] from rfl)) (fun _ _ h => h.elim) (fun _ _ h => h.elim) (fun v u h => ?_)
  rcases h with ⟨rfl, rfl⟩
  refine jr_norm [(m0, .inr (10, jmdl R mb)), ((mb 3), .inl (t 0, 8, .inl LN)), ((mb 2), .inl (t 0, 784, .inl CU))] [.int (mPl (R 28) LN x ps), .ref m0] 7 0 0 rfl rfl rfl rfl rfl ?_
  refine jr_if_ne 14 CC (jd ddX11_value 5 rfl) (by decide) (fun c1 => ?_) (fun c1 => ?_)
  · refine jr_iload_n CC (jd ddX11_value 8 rfl) 2 rfl ?_
    refine jr_iconst (v := 0) CC (jd ddX11_value 9 rfl) (by decide) ?_
    refine jr_iconst (v := 1) CC (jd ddX11_value 10 rfl) (by decide) ?_
    refine jr_callS (rest := [.ref m0]) [.int ch, .int 0, .int 1] CC (jd ddX11_value 11 rfl) (jy_X11_67 CC) (k_X11_isIn l t hfl ch 0 1) [] rfl (by decide) rfl rfl (by decide) (Nat.le_of_ble_eq_true rfl) (by rintro v u h; rcases h with ⟨rfl, rfl⟩ <;> rfl) (fun _ _ h => h.elim) (fun _ _ h => h.elim) (fun v u h => ?_)
    rcases h with ⟨rfl, rfl⟩
    refine jr_norm [(m0, .inr (10, jmdl R mb)), ((mb 3), .inl (t 0, 8, .inl LN)), ((mb 2), .inl (t 0, 784, .inl CU))] [.int (mIn ch 0 1), .ref m0] 20 0 0 rfl rfl rfl rfl rfl ?_
    refine jr_if_eq 27 CC (jd ddX11_value 12 rfl) (by decide) (fun c2 => ?_) (fun c2 => ?_)
    · refine jr_iconst (v := 2) CC (jd ddX11_value 15 rfl) (by decide) ?_
      refine jr_callV (q0 := 0) (rest := []) [.int 2] CC (jd ddX11_value 16 rfl) (jy_X11_111 CC) (k_X11_fails_2 l t hfl m0 mb R) [0] rfl (by decide) rfl rfl rfl rfl (by decide) (Nat.le_of_ble_eq_true rfl) (by rintro v u h; rcases h with ⟨rfl, rfl⟩ <;> exact (show ([m0] : List Nat) = [m0] from rfl)) (fun _ _ h => h.elim) (fun _ _ h => h.elim) (fun v u h => ?_)
      rcases h with ⟨rfl, rfl⟩
      refine jr_norm [(m0, .inr (10, jmdl (upd R 44 2) mb)), ((mb 3), .inl (t 0, 8, .inl LN)), ((mb 2), .inl (t 0, 784, .inl CU))] [.int 1] 31 0 0 rfl rfl rfl rfl rfl ?_
      refine jr_if_eq 38 CC (jd ddX11_value 17 rfl) (by decide) (fun h => absurd h (by decide)) (fun _ => ?_)
      refine jr_iconst (v := 0) CC (jd ddX11_value 18 rfl) (by decide) ?_
      refine jr_goto 45 CC (jd ddX11_value 19 rfl) (by decide) ?_
      exact jr_iret CC MM (jd ddX11_value 25 rfl) rfl (by decide) (by decide) (Or.inr (Or.inr ⟨by rw [eVal_m]; simp [c1, c2], rfl, rfl⟩))
    · refine jr_iconst (v := 0) CC (jd ddX11_value 13 rfl) (by decide) ?_
      refine jr_goto 28 CC (jd ddX11_value 14 rfl) (by decide) ?_
      refine jr_callV (q0 := 0) (rest := []) [.int 0] CC (jd ddX11_value 16 rfl) (jy_X11_111 CC) (k_X11_fails_0 l t hfl m0 mb R) [0] rfl (by decide) rfl rfl rfl rfl (by decide) (Nat.le_of_ble_eq_true rfl) (by rintro v u h; rcases h with ⟨rfl, rfl⟩ <;> exact (show ([m0] : List Nat) = [m0] from rfl)) (fun _ _ h => h.elim) (fun _ _ h => h.elim) (fun v u h => ?_)
      rcases h with ⟨rfl, rfl⟩
      refine jr_norm [(m0, .inr (10, jmdl (upd R 44 0) mb)), ((mb 3), .inl (t 0, 8, .inl LN)), ((mb 2), .inl (t 0, 784, .inl CU))] [.int 0] 31 0 0 rfl rfl rfl rfl rfl ?_
      refine jr_if_eq 38 CC (jd ddX11_value 17 rfl) (by decide) (fun _ => ?_) (fun h => absurd h (by decide))
      have hpl := mPl_inv c1
      obtain ⟨r, hr, rfl⟩ := jrec_nat (h28 ▸ ((jrec_iff _ _).mpr hpl.1)) hm8
      have ntr : (nI r).toNatClampNeg = r := nI_tn (by omega)
      obtain ⟨kk, hkk, hk1, hk49⟩ := hLN r hr
      obtain ⟨j, hj, rfl⟩ := jpos_int (show jpos (nI kk) ps.toInt64 from (jpos_iff _ _).mpr ⟨hpl.2.1, by rw [← hkk, ← ntr]; exact hpl.2.2⟩) hk49
      have ntj : (nI j).toNatClampNeg = j := nI_tn (by omega)
      obtain ⟨ch1, hch1, rfl⟩ := jin_nat 1 ((jin_iff _ _ _).mpr c2) (by decide) rfl
      have ntch1 : (nI ch1).toNatClampNeg = ch1 := nI_tn (by omega)
      refine jr_aload_n CC (jd ddX11_value 20 rfl) 0 rfl ?_
      refine jr_iload_n CC (jd ddX11_value 21 rfl) 1 rfl ?_
      refine jr_iload_n CC (jd ddX11_value 22 rfl) 2 rfl ?_
      refine jr_iload_n CC (jd ddX11_value 23 rfl) 3 rfl ?_
      refine jr_callV (q0 := 0) (rest := []) [.int (nI r), .int (nI ch1), .int (nI j)] CC (jd ddX11_value 24 rfl) (jy_X11_195 CC) (k_X11_at l t hfl m0 mb (upd R 44 0) CU r ch1 j (by first | assumption | omega | decide) (by first | assumption | omega | decide) (by first | assumption | omega | decide)) [0, 2] rfl (by decide) rfl rfl rfl rfl (by decide) (Nat.le_of_ble_eq_true rfl) (by rintro v u h; rcases h with ⟨rfl, rfl⟩ <;> exact (show ([m0, (mb 2)] : List Nat) = [m0, (mb 2)] from rfl)) (fun _ _ h => h.elim) (fun _ _ h => h.elim) (fun v u h => ?_)
      rcases h with ⟨rfl, rfl⟩
      refine jr_norm [(m0, .inr (10, jmdl (upd R 44 0) mb)), ((mb 3), .inl (t 0, 8, .inl LN)), ((mb 2), .inl (t 0, 784, .inl CU))] [.int (mcol CU r ch1 j)] 45 0 0 rfl rfl rfl rfl rfl ?_
      exact jr_iret CC MM (jd ddX11_value 25 rfl) rfl (by decide) (by decide) (Or.inl ⟨by rw [eVal_m]; simp [c1, c2], by rw [ntr, ntj, ntch1], rfl⟩)
  · refine jr_iconst (v := 1) CC (jd ddX11_value 6 rfl) (by decide) ?_
    refine jr_goto 28 CC (jd ddX11_value 7 rfl) (by decide) ?_
    refine jr_callV (q0 := 0) (rest := []) [.int 1] CC (jd ddX11_value 16 rfl) (jy_X11_111 CC) (k_X11_fails_1 l t hfl m0 mb R) [0] rfl (by decide) rfl rfl rfl rfl (by decide) (Nat.le_of_ble_eq_true rfl) (by rintro v u h; rcases h with ⟨rfl, rfl⟩ <;> exact (show ([m0] : List Nat) = [m0] from rfl)) (fun _ _ h => h.elim) (fun _ _ h => h.elim) (fun v u h => ?_)
    rcases h with ⟨rfl, rfl⟩
    refine jr_norm [(m0, .inr (10, jmdl (upd R 44 1) mb)), ((mb 3), .inl (t 0, 8, .inl LN)), ((mb 2), .inl (t 0, 784, .inl CU))] [.int 1] 31 0 0 rfl rfl rfl rfl rfl ?_
    refine jr_if_eq 38 CC (jd ddX11_value 17 rfl) (by decide) (fun h => absurd h (by decide)) (fun _ => ?_)
    refine jr_iconst (v := 0) CC (jd ddX11_value 18 rfl) (by decide) ?_
    refine jr_goto 45 CC (jd ddX11_value 19 rfl) (by decide) ?_
    exact jr_iret CC MM (jd ddX11_value 25 rfl) rfl (by decide) (by decide) (Or.inr (Or.inl ⟨by rw [eVal_m]; simp [c1], rfl, rfl⟩))
set_option maxHeartbeats 8000000 in
set_option maxRecDepth 100000 in
theorem k_X11_isNoGroup (l : Launch) (t : Nat → ClassId) (hfl : l.stackTraces = false) (m0 : Nat) (mb : Nat → Nat) (R : Nat → Int32) (LN : Nat → Int32) (m8 : Nat) (x : Int32) (ch : Int32) (sz : Int32) (g : Int32) (h28 : R 28 = nI m8) (hm8 : m8 ≤ 8) (hLN : lenOK LN m8) : jKx l t yX11_isNoGroup (Cond.code yX11_isNoGroup cX11_isNoGroup 6 (some .boolean) :: jWS) { frames := 1, cells := 0, slots := 0, locals := 22 } [.ref m0, .int x, .int ch, .int sz, .int g] [(m0, .inr (10, jmdl R mb)), ((mb 3), .inl (t 0, 8, .inl LN))] (fun vv uu => (((eGrp (R 28) x (LN x.toNatClampNeg) ch sz g) = 0) ∧ vv = some (.int 0) ∧ uu = [(m0, .inr (10, jmdl (upd R 44 0) mb)), ((mb 3), .inl (t 0, 8, .inl LN))]) ∨ (((eGrp (R 28) x (LN x.toNatClampNeg) ch sz g) = 1) ∧ vv = some (.int 1) ∧ uu = [(m0, .inr (10, jmdl (upd R 44 1) mb)), ((mb 3), .inl (t 0, 8, .inl LN))]) ∨ (((eGrp (R 28) x (LN x.toNatClampNeg) ch sz g) = 2) ∧ vv = some (.int 1) ∧ uu = [(m0, .inr (10, jmdl (upd R 44 2) mb)), ((mb 3), .inl (t 0, 8, .inl LN))])) (fun _ _ => False) := by
  refine jK_of hfl (by decide +kernel) (Nat.le_of_ble_eq_true rfl) ?_
  intro p e s m args below meth c D A Q CC MM
  refine jr_norm0 [(0, .ref m0), (1, .int x), (2, .int ch), (3, .int sz), (4, .int g)] rfl ?_
  refine jr_iload_n CC (jd ddX11_isNoGroup 0 rfl) 2 rfl ?_
  refine jr_iconst (v := 0) CC (jd ddX11_isNoGroup 1 rfl) (by decide) ?_
  refine jr_iconst (v := 1) CC (jd ddX11_isNoGroup 2 rfl) (by decide) ?_
  refine jr_callS (rest := []) [.int ch, .int 0, .int 1] CC (jd ddX11_isNoGroup 3 rfl) (jy_X11_67 CC) (k_X11_isIn l t hfl ch 0 1) [] rfl (by decide) rfl rfl (by decide) (Nat.le_of_ble_eq_true rfl) (by rintro v u h; rcases h with ⟨rfl, rfl⟩ <;> rfl) (fun _ _ h => h.elim) (fun _ _ h => h.elim) (fun v u h => ?_)
  rcases h with ⟨rfl, rfl⟩
  refine jr_norm [(m0, .inr (10, jmdl R mb)), ((mb 3), .inl (t 0, 8, .inl LN))] [.int (mIn ch 0 1)] 6 0 0 rfl rfl rfl rfl rfl ?_
  refine jr_if_eq 23 CC (jd ddX11_isNoGroup 4 rfl) (by decide) (fun c1 => ?_) (fun c1 => ?_)
  · refine jr_iconst (v := 0) CC (jd ddX11_isNoGroup 12 rfl) (by decide) ?_
    refine jr_istore [(5, .int 0), (0, .ref m0), (1, .int x), (2, .int ch), (3, .int sz), (4, .int g)] CC (jd ddX11_isNoGroup 13 rfl) (by decide) rfl ?_
    refine jr_aload_n CC (jd ddX11_isNoGroup 14 rfl) 1 rfl ?_
    refine jr_iload CC (jd ddX11_isNoGroup 15 rfl) 0 rfl ?_
    refine jr_if_ne 36 CC (jd ddX11_isNoGroup 16 rfl) (by decide) (fun h => absurd h (by decide)) (fun _ => ?_)
    refine jr_iconst (v := 1) CC (jd ddX11_isNoGroup 17 rfl) (by decide) ?_
    refine jr_goto 69 CC (jd ddX11_isNoGroup 18 rfl) (by decide) ?_
    refine jr_callV (q0 := 0) (rest := []) [.int 1] CC (jd ddX11_isNoGroup 38 rfl) (jy_X11_111 CC) (k_X11_fails_1 l t hfl m0 mb R) [0] rfl (by decide) rfl rfl rfl rfl (by decide) (Nat.le_of_ble_eq_true rfl) (by rintro v u h; rcases h with ⟨rfl, rfl⟩ <;> exact (show ([m0] : List Nat) = [m0] from rfl)) (fun _ _ h => h.elim) (fun _ _ h => h.elim) (fun v u h => ?_)
    rcases h with ⟨rfl, rfl⟩
    refine jr_norm [(m0, .inr (10, jmdl (upd R 44 1) mb)), ((mb 3), .inl (t 0, 8, .inl LN))] [.int 1] 72 0 0 rfl rfl rfl rfl rfl ?_
    exact jr_zret rfl CC MM (jd ddX11_isNoGroup 39 rfl) rfl (by decide) (by decide) (Or.inr (Or.inl ⟨eGrp_a (fun q => (jin_iff _ _ _).mp q.1 c1), rfl, rfl⟩))
  · refine jr_iload_n CC (jd ddX11_isNoGroup 5 rfl) 3 rfl ?_
    refine jr_iconst (v := 1) CC (jd ddX11_isNoGroup 6 rfl) (by decide) ?_
    refine jr_bipush (v := 16) CC (jd ddX11_isNoGroup 7 rfl) (by decide) ?_
    refine jr_callS (rest := []) [.int sz, .int 1, .int 16] CC (jd ddX11_isNoGroup 8 rfl) (jy_X11_67 CC) (k_X11_isIn l t hfl sz 1 16) [] rfl (by decide) rfl rfl (by decide) (Nat.le_of_ble_eq_true rfl) (by rintro v u h; rcases h with ⟨rfl, rfl⟩ <;> rfl) (fun _ _ h => h.elim) (fun _ _ h => h.elim) (fun v u h => ?_)
    rcases h with ⟨rfl, rfl⟩
    refine jr_norm [(m0, .inr (10, jmdl R mb)), ((mb 3), .inl (t 0, 8, .inl LN))] [.int (mIn sz 1 16)] 16 0 0 rfl rfl rfl rfl rfl ?_
    refine jr_if_eq 23 CC (jd ddX11_isNoGroup 9 rfl) (by decide) (fun c3 => ?_) (fun c3 => ?_)
    · refine jr_iconst (v := 0) CC (jd ddX11_isNoGroup 12 rfl) (by decide) ?_
      refine jr_istore [(5, .int 0), (0, .ref m0), (1, .int x), (2, .int ch), (3, .int sz), (4, .int g)] CC (jd ddX11_isNoGroup 13 rfl) (by decide) rfl ?_
      refine jr_aload_n CC (jd ddX11_isNoGroup 14 rfl) 1 rfl ?_
      refine jr_iload CC (jd ddX11_isNoGroup 15 rfl) 0 rfl ?_
      refine jr_if_ne 36 CC (jd ddX11_isNoGroup 16 rfl) (by decide) (fun h => absurd h (by decide)) (fun _ => ?_)
      refine jr_iconst (v := 1) CC (jd ddX11_isNoGroup 17 rfl) (by decide) ?_
      refine jr_goto 69 CC (jd ddX11_isNoGroup 18 rfl) (by decide) ?_
      refine jr_callV (q0 := 0) (rest := []) [.int 1] CC (jd ddX11_isNoGroup 38 rfl) (jy_X11_111 CC) (k_X11_fails_1 l t hfl m0 mb R) [0] rfl (by decide) rfl rfl rfl rfl (by decide) (Nat.le_of_ble_eq_true rfl) (by rintro v u h; rcases h with ⟨rfl, rfl⟩ <;> exact (show ([m0] : List Nat) = [m0] from rfl)) (fun _ _ h => h.elim) (fun _ _ h => h.elim) (fun v u h => ?_)
      rcases h with ⟨rfl, rfl⟩
      refine jr_norm [(m0, .inr (10, jmdl (upd R 44 1) mb)), ((mb 3), .inl (t 0, 8, .inl LN))] [.int 1] 72 0 0 rfl rfl rfl rfl rfl ?_
      exact jr_zret rfl CC MM (jd ddX11_isNoGroup 39 rfl) rfl (by decide) (by decide) (Or.inr (Or.inl ⟨eGrp_a (fun q => (jin_iff _ _ _).mp q.2 c3), rfl, rfl⟩))
    · refine jr_iconst (v := 1) CC (jd ddX11_isNoGroup 10 rfl) (by decide) ?_
      refine jr_goto 24 CC (jd ddX11_isNoGroup 11 rfl) (by decide) ?_
      refine jr_istore [(5, .int 1), (0, .ref m0), (1, .int x), (2, .int ch), (3, .int sz), (4, .int g)] CC (jd ddX11_isNoGroup 13 rfl) (by decide) rfl ?_
      refine jr_aload_n CC (jd ddX11_isNoGroup 14 rfl) 1 rfl ?_
      refine jr_iload CC (jd ddX11_isNoGroup 15 rfl) 0 rfl ?_
      refine jr_if_ne 36 CC (jd ddX11_isNoGroup 16 rfl) (by decide) (fun _ => ?_) (fun h => absurd h (by decide))
      refine jr_aload_n CC (jd ddX11_isNoGroup 19 rfl) 1 rfl ?_
      refine jr_iload_n CC (jd ddX11_isNoGroup 20 rfl) 2 rfl ?_
      refine jr_callV (q0 := 0) (rest := [.ref m0]) [.int x] CC (jd ddX11_isNoGroup 21 rfl) (jy_X11_189 CC) (k_X11_isRecord l t hfl m0 mb R x) [0] rfl (by decide) rfl rfl rfl rfl (by decide) (Nat.le_of_ble_eq_true rfl) (by rintro v u h; rcases h with ⟨rfl, rfl⟩ <;> exact (show ([m0] : List Nat) = [m0] from rfl)) (fun _ _ h => h.elim) (fun _ _ h => h.elim) (fun v u h => ?_)
      rcases h with ⟨rfl, rfl⟩
      refine jr_norm [(m0, .inr (10, jmdl R mb)), ((mb 3), .inl (t 0, 8, .inl LN))] [.int (mRec (R 28) x), .ref m0] 41 0 0 rfl rfl rfl rfl rfl ?_
      refine jr_if_eq 68 CC (jd ddX11_isNoGroup 22 rfl) (by decide) (fun c6 => ?_) (fun c6 => ?_)
      · refine jr_iconst (v := 2) CC (jd ddX11_isNoGroup 37 rfl) (by decide) ?_
        refine jr_callV (q0 := 0) (rest := []) [.int 2] CC (jd ddX11_isNoGroup 38 rfl) (jy_X11_111 CC) (k_X11_fails_2 l t hfl m0 mb R) [0] rfl (by decide) rfl rfl rfl rfl (by decide) (Nat.le_of_ble_eq_true rfl) (by rintro v u h; rcases h with ⟨rfl, rfl⟩ <;> exact (show ([m0] : List Nat) = [m0] from rfl)) (fun _ _ h => h.elim) (fun _ _ h => h.elim) (fun v u h => ?_)
        rcases h with ⟨rfl, rfl⟩
        refine jr_norm [(m0, .inr (10, jmdl (upd R 44 2) mb)), ((mb 3), .inl (t 0, 8, .inl LN))] [.int 1] 72 0 0 rfl rfl rfl rfl rfl ?_
        exact jr_zret rfl CC MM (jd ddX11_isNoGroup 39 rfl) rfl (by decide) (by decide) (Or.inr (Or.inr ⟨eGrp_b ⟨(jin_iff _ _ _).mpr c1, (jin_iff _ _ _).mpr c3⟩ (fun q => (jrec_iff _ _).mp q c6), rfl, rfl⟩))
      · obtain ⟨r, hr, rfl⟩ := jrec_nat (h28 ▸ ((jrec_iff _ _).mpr c6)) hm8
        have ntr : (nI r).toNatClampNeg = r := nI_tn (by omega)
        obtain ⟨kk, hkk, hk1, hk49⟩ := hLN r hr
        have hz0 := (jin_iff _ _ _).mpr c3
        obtain ⟨sz1, hsz1, rfl⟩ := jin_nat 16 hz0 (by decide) rfl
        have ntsz1 : (nI sz1).toNatClampNeg = sz1 := nI_tn (by omega)
        have hsz2 := jlt_not (b := 1) hz0.1 (by omega) (by decide)
        refine jr_iload CC (jd ddX11_isNoGroup 23 rfl) 5 rfl ?_
        refine jr_if_lt 68 CC (jd ddX11_isNoGroup 24 rfl) (by decide) (fun c7 => ?_) (fun c7 => ?_)
        · refine jr_iconst (v := 2) CC (jd ddX11_isNoGroup 37 rfl) (by decide) ?_
          refine jr_callV (q0 := 0) (rest := []) [.int 2] CC (jd ddX11_isNoGroup 38 rfl) (jy_X11_111 CC) (k_X11_fails_2 l t hfl m0 mb R) [0] rfl (by decide) rfl rfl rfl rfl (by decide) (Nat.le_of_ble_eq_true rfl) (by rintro v u h; rcases h with ⟨rfl, rfl⟩ <;> exact (show ([m0] : List Nat) = [m0] from rfl)) (fun _ _ h => h.elim) (fun _ _ h => h.elim) (fun v u h => ?_)
          rcases h with ⟨rfl, rfl⟩
          refine jr_norm [(m0, .inr (10, jmdl (upd R 44 2) mb)), ((mb 3), .inl (t 0, 8, .inl LN))] [.int 1] 72 0 0 rfl rfl rfl rfl rfl ?_
          exact jr_zret rfl CC MM (jd ddX11_isNoGroup 39 rfl) rfl (by decide) (by decide) (Or.inr (Or.inr ⟨eGrp_c ⟨(jin_iff _ _ _).mpr c1, (jin_iff _ _ _).mpr c3⟩ ((jrec_iff _ _).mpr c6) (fun q => (by rw [ntr, hkk] at q; exact ((grp_iff hsz2 hsz1 hk1 hk49).mp q).1 c7)), rfl, rfl⟩))
        · refine jr_iload CC (jd ddX11_isNoGroup 25 rfl) 5 rfl ?_
          refine jr_aload_n CC (jd ddX11_isNoGroup 26 rfl) 1 rfl ?_
          refine jr_get (v := .ref (mb 3)) CC (jd ddX11_isNoGroup 27 rfl) (jf_X11_33 CC) 0 rfl rfl ?_
          refine jr_iload_n CC (jd ddX11_isNoGroup 28 rfl) 2 rfl ?_
          refine jr_ialdN CC (jd ddX11_isNoGroup 29 rfl) 1 r rfl rfl (by omega) (by decide) ?_
          refine jr_st [.int (nI kk), .int g, .ref m0] (jst1 hkk) ?_
          refine jr_iconst (v := 1) CC (jd ddX11_isNoGroup 30 rfl) (by decide) ?_
          refine jr_isub CC (jd ddX11_isNoGroup 31 rfl) ?_
          refine jr_st [.int (nI (kk - 1)), .int g, .ref m0] (jst1 (pk_sub (a := kk) (b := 1) (by omega))) ?_
          refine jr_pc (pc' := 59) rfl ?_
          refine jr_iload_n CC (jd ddX11_isNoGroup 32 rfl) 4 rfl ?_
          refine jr_idiv CC (jd ddX11_isNoGroup 33 rfl) (nI_ne0 (by omega) (by omega)) ?_
          refine jr_st [.int (nI ((kk - 1) / sz1)), .int g, .ref m0] (jst1 (pk_div (a := (kk - 1)) (d := sz1) (by omega) (by omega) (by omega))) ?_
          refine jr_icmp_gt 68 CC (jd ddX11_isNoGroup 34 rfl) (by decide) (fun c8 => ?_) (fun c8 => ?_)
          · refine jr_iconst (v := 2) CC (jd ddX11_isNoGroup 37 rfl) (by decide) ?_
            refine jr_callV (q0 := 0) (rest := []) [.int 2] CC (jd ddX11_isNoGroup 38 rfl) (jy_X11_111 CC) (k_X11_fails_2 l t hfl m0 mb R) [0] rfl (by decide) rfl rfl rfl rfl (by decide) (Nat.le_of_ble_eq_true rfl) (by rintro v u h; rcases h with ⟨rfl, rfl⟩ <;> exact (show ([m0] : List Nat) = [m0] from rfl)) (fun _ _ h => h.elim) (fun _ _ h => h.elim) (fun v u h => ?_)
            rcases h with ⟨rfl, rfl⟩
            refine jr_norm [(m0, .inr (10, jmdl (upd R 44 2) mb)), ((mb 3), .inl (t 0, 8, .inl LN))] [.int 1] 72 0 0 rfl rfl rfl rfl rfl ?_
            exact jr_zret rfl CC MM (jd ddX11_isNoGroup 39 rfl) rfl (by decide) (by decide) (Or.inr (Or.inr ⟨eGrp_c ⟨(jin_iff _ _ _).mpr c1, (jin_iff _ _ _).mpr c3⟩ ((jrec_iff _ _).mpr c6) (fun q => (by rw [ntr, hkk] at q; exact Int32.not_lt.mpr ((grp_iff hsz2 hsz1 hk1 hk49).mp q).2 c8)), rfl, rfl⟩))
          · refine jr_iconst (v := 0) CC (jd ddX11_isNoGroup 35 rfl) (by decide) ?_
            refine jr_goto 69 CC (jd ddX11_isNoGroup 36 rfl) (by decide) ?_
            refine jr_callV (q0 := 0) (rest := []) [.int 0] CC (jd ddX11_isNoGroup 38 rfl) (jy_X11_111 CC) (k_X11_fails_0 l t hfl m0 mb R) [0] rfl (by decide) rfl rfl rfl rfl (by decide) (Nat.le_of_ble_eq_true rfl) (by rintro v u h; rcases h with ⟨rfl, rfl⟩ <;> exact (show ([m0] : List Nat) = [m0] from rfl)) (fun _ _ h => h.elim) (fun _ _ h => h.elim) (fun v u h => ?_)
            rcases h with ⟨rfl, rfl⟩
            refine jr_norm [(m0, .inr (10, jmdl (upd R 44 0) mb)), ((mb 3), .inl (t 0, 8, .inl LN))] [.int 0] 72 0 0 rfl rfl rfl rfl rfl ?_
            exact jr_zret rfl CC MM (jd ddX11_isNoGroup 39 rfl) rfl (by decide) (by decide) (Or.inl ⟨eGrp_d ⟨(jin_iff _ _ _).mpr c1, (jin_iff _ _ _).mpr c3⟩ ((jrec_iff _ _).mpr c6) (by rw [ntr, hkk]; exact (grp_iff hsz2 hsz1 hk1 hk49).mpr ⟨c7, Int32.not_lt.mp c8⟩), rfl, rfl⟩)
set_option maxHeartbeats 8000000 in
set_option maxRecDepth 100000 in
theorem k_X11_end (l : Launch) (t : Nat → ClassId) (hfl : l.stackTraces = false) (m0 : Nat) (mb : Nat → Nat) (R : Nat → Int32) (LN : Nat → Int32) (r : Nat) (sz : Nat) (g1 : Nat) (kk : Nat) (hr : r < 8) (hkk : LN r = nI kk) (hk49 : kk ≤ 49) (hsz : sz ≤ 16) (hg : sz * g1 < kk) : jKx l t yX11_end (Cond.code yX11_end cX11_end 5 (some .int) :: jWS) { frames := 0, cells := 0, slots := 0, locals := 0 } [.ref m0, .int (nI r), .int (nI sz), .int (nI g1)] [(m0, .inr (10, jmdl R mb)), ((mb 3), .inl (t 0, 8, .inl LN))] (fun vv uu => (vv = some (.int (nI (min (sz * g1 + sz) kk))) ∧ uu = [(m0, .inr (10, jmdl R mb)), ((mb 3), .inl (t 0, 8, .inl LN))])) (fun _ _ => False) := by
  refine jK_of hfl (by decide +kernel) (Nat.le_of_ble_eq_true rfl) ?_
  intro p e s m args below meth c D A Q CC MM
  refine jr_norm0 [(0, .ref m0), (1, .int (nI r)), (2, .int (nI sz)), (3, .int (nI g1))] rfl ?_
  refine jr_iload_n CC (jd ddX11_end 0 rfl) 2 rfl ?_
  refine jr_iload_n CC (jd ddX11_end 1 rfl) 3 rfl ?_
  refine jr_imul CC (jd ddX11_end 2 rfl) ?_
  refine jr_st [.int (nI (sz * g1))] (jst1 (pk_mul sz g1)) ?_
  refine jr_iload_n CC (jd ddX11_end 3 rfl) 2 rfl ?_
  refine jr_iadd CC (jd ddX11_end 4 rfl) ?_
  refine jr_st [.int (nI ((sz * g1) + sz))] (jst1 (nI_add (sz * g1) sz)) ?_
  refine jr_istore [(4, .int (nI ((sz * g1) + sz))), (0, .ref m0), (1, .int (nI r)), (2, .int (nI sz)), (3, .int (nI g1))] CC (jd ddX11_end 5 rfl) (by decide) rfl ?_
  refine jr_iload CC (jd ddX11_end 6 rfl) 0 rfl ?_
  refine jr_aload_n CC (jd ddX11_end 7 rfl) 1 rfl ?_
  refine jr_get (v := .ref (mb 3)) CC (jd ddX11_end 8 rfl) (jf_X11_33 CC) 0 rfl rfl ?_
  refine jr_iload_n CC (jd ddX11_end 9 rfl) 2 rfl ?_
  refine jr_pc (pc' := 14) rfl ?_
  refine jr_ialdN CC (jd ddX11_end 10 rfl) 1 r rfl rfl (by omega) (by decide) ?_
  refine jr_st [.int (nI kk), .int (nI ((sz * g1) + sz))] (jst1 hkk) ?_
  refine jr_icmp_ge 23 CC (jd ddX11_end 11 rfl) (by decide) (fun c1 => ?_) (fun c1 => ?_)
  · have n1 := jle_of (a := kk) (b := ((sz * g1) + sz)) c1 (by omega) (by omega)
    refine jr_aload_n CC (jd ddX11_end 14 rfl) 1 rfl ?_
    refine jr_get (v := .ref (mb 3)) CC (jd ddX11_end 15 rfl) (jf_X11_33 CC) 0 rfl rfl ?_
    refine jr_iload_n CC (jd ddX11_end 16 rfl) 2 rfl ?_
    refine jr_ialdN CC (jd ddX11_end 17 rfl) 1 r rfl rfl (by omega) (by decide) ?_
    refine jr_st [.int (nI kk)] (jst1 hkk) ?_
    exact jr_iret CC MM (jd ddX11_end 18 rfl) rfl (by decide) (by decide) ⟨by rw [Nat.min_eq_right (by omega)], rfl⟩
  · have n1 := jle_not (a := kk) (b := ((sz * g1) + sz)) c1 (by omega) (by omega)
    refine jr_iload CC (jd ddX11_end 12 rfl) 0 rfl ?_
    refine jr_goto 29 CC (jd ddX11_end 13 rfl) (by decide) ?_
    exact jr_iret CC MM (jd ddX11_end 18 rfl) rfl (by decide) (by decide) ⟨by rw [Nat.min_eq_left (by omega)], rfl⟩
set_option maxHeartbeats 8000000 in
set_option maxRecDepth 100000 in
theorem k_X11_low (l : Launch) (t : Nat → ClassId) (hfl : l.stackTraces = false) (m0 : Nat) (mb : Nat → Nat) (R : Nat → Int32) (LN : Nat → Int32) (CU : Nat → Int32) (m8 : Nat) (x : Int32) (ch : Int32) (sz : Int32) (g : Int32) (h28 : R 28 = nI m8) (hm8 : m8 ≤ 8) (hLN : lenOK LN m8) : jKx l t yX11_low (Cond.code yX11_low cX11_low 7 (some .int) :: jWS) { frames := 2, cells := 0, slots := 0, locals := 47 } [.ref m0, .int x, .int ch, .int sz, .int g] [(m0, .inr (10, jmdl R mb)), ((mb 3), .inl (t 0, 8, .inl LN)), ((mb 2), .inl (t 0, 784, .inl CU))] (fun vv uu => (((eGrp (R 28) x (LN x.toNatClampNeg) ch sz g) = 0) ∧ vv = some (.int (mLow CU LN x ch sz g)) ∧ uu = [(m0, .inr (10, jmdl (upd R 44 0) mb)), ((mb 3), .inl (t 0, 8, .inl LN)), ((mb 2), .inl (t 0, 784, .inl CU))]) ∨ (((eGrp (R 28) x (LN x.toNatClampNeg) ch sz g) = 1) ∧ vv = some (.int 0) ∧ uu = [(m0, .inr (10, jmdl (upd R 44 1) mb)), ((mb 3), .inl (t 0, 8, .inl LN)), ((mb 2), .inl (t 0, 784, .inl CU))]) ∨ (((eGrp (R 28) x (LN x.toNatClampNeg) ch sz g) = 2) ∧ vv = some (.int 0) ∧ uu = [(m0, .inr (10, jmdl (upd R 44 2) mb)), ((mb 3), .inl (t 0, 8, .inl LN)), ((mb 2), .inl (t 0, 784, .inl CU))])) (fun _ _ => False) := by
  refine jK_of hfl (by decide +kernel) (Nat.le_of_ble_eq_true rfl) ?_
  intro p e s m args below meth c D A Q CC MM
  refine jr_norm0 [(0, .ref m0), (1, .int x), (2, .int ch), (3, .int sz), (4, .int g)] rfl ?_
  refine jr_aload_n CC (jd ddX11_low 0 rfl) 0 rfl ?_
  refine jr_iload_n CC (jd ddX11_low 1 rfl) 1 rfl ?_
  refine jr_iload_n CC (jd ddX11_low 2 rfl) 2 rfl ?_
  refine jr_iload_n CC (jd ddX11_low 3 rfl) 3 rfl ?_
  refine jr_iload CC (jd ddX11_low 4 rfl) 4 rfl ?_
  refine jr_callV (q0 := 0) (rest := []) [.int x, .int ch, .int sz, .int g] CC (jd ddX11_low 5 rfl) (jy_X11_198 CC) (k_X11_isNoGroup l t hfl m0 mb R LN m8 x ch sz g h28 hm8 hLN) [0, 1] rfl (by decide) rfl rfl rfl rfl (by decide) (Nat.le_of_ble_eq_true rfl) (by rintro v u h; rcases h with ⟨h0, rfl, rfl⟩ | ⟨h0, rfl, rfl⟩ | ⟨h0, rfl, rfl⟩ <;> exact (show ([m0, (mb 3)] : List Nat) = [m0, (mb 3)] from rfl)) (fun _ _ h => h.elim) (fun _ _ h => h.elim) (fun v u h => ?_)
  rcases h with ⟨c1, rfl, rfl⟩ | ⟨c2, rfl, rfl⟩ | ⟨c3, rfl, rfl⟩
  · refine jr_norm [(m0, .inr (10, jmdl (upd R 44 0) mb)), ((mb 3), .inl (t 0, 8, .inl LN)), ((mb 2), .inl (t 0, 784, .inl CU))] [.int 0] 9 0 0 rfl rfl rfl rfl rfl ?_
    refine jr_if_eq 14 CC (jd ddX11_low 6 rfl) (by decide) (fun _ => ?_) (fun h => absurd h (by decide))
    obtain ⟨⟨hc1, hc2⟩, hc3, hc4⟩ := eGrp_inv c1
    obtain ⟨r, hr, rfl⟩ := jrec_nat (h28 ▸ hc3) hm8
    have ntr : (nI r).toNatClampNeg = r := nI_tn (by omega)
    obtain ⟨kk, hkk, hk1, hk49⟩ := hLN r hr
    rw [ntr, hkk] at hc4
    obtain ⟨sz1, hsz1, rfl⟩ := jin_nat 16 hc2 (by decide) rfl
    have ntsz1 : (nI sz1).toNatClampNeg = sz1 := nI_tn (by omega)
    have hsz2 := jlt_not (b := 1) hc2.1 (by omega) (by decide)
    obtain ⟨g1, hg1, hg2, rfl⟩ : ∃ j : Nat, sz1 * j < kk ∧ j < 2147483648 ∧ g = nI j := by
      obtain ⟨j, h1, h2⟩ := jpos_grp hc4 hsz2 hsz1 hk49
      exact ⟨j, h1, Nat.lt_of_le_of_lt (Nat.le_mul_of_pos_left j hsz2) (by omega), h2⟩
    have ntg1 : (nI g1).toNatClampNeg = g1 := nI_tn (by omega)
    obtain ⟨ch1, hch1, rfl⟩ := jin_nat 1 hc1 (by decide) rfl
    have ntch1 : (nI ch1).toNatClampNeg = ch1 := nI_tn (by omega)
    refine jr_bipush (v := 127) CC (jd ddX11_low 9 rfl) (by decide) ?_
    refine jr_istore [(5, .int 127), (0, .ref m0), (1, .int (nI r)), (2, .int (nI ch1)), (3, .int (nI sz1)), (4, .int (nI g1))] CC (jd ddX11_low 10 rfl) (by decide) rfl ?_
    refine jr_iload_n CC (jd ddX11_low 11 rfl) 4 rfl ?_
    refine jr_iload CC (jd ddX11_low 12 rfl) 5 rfl ?_
    refine jr_imul CC (jd ddX11_low 13 rfl) ?_
    refine jr_st [.int (nI (sz1 * g1))] (jst1 (pk_mul sz1 g1)) ?_
    refine jr_istore [(6, .int (nI (sz1 * g1))), (5, .int 127), (0, .ref m0), (1, .int (nI r)), (2, .int (nI ch1)), (3, .int (nI sz1)), (4, .int (nI g1))] CC (jd ddX11_low 14 rfl) (by decide) rfl ?_
    have hL5 : ∀ (d9 : Nat) (i : Nat) (acc : Int32) (hi1 : (sz1 * g1) ≤ i) (hi : i ≤ (min (sz1 * g1 + sz1) kk)) (hq : jlo (mcol CU r ch1) ((min (sz1 * g1 + sz1) kk) - (sz1 * g1)) (sz1 * g1) 127 = jlo (mcol CU r ch1) ((min (sz1 * g1 + sz1) kk) - i) i acc), (min (sz1 * g1 + sz1) kk) - i < d9 → J p l e { frames := 2, cells := 0, slots := 0, locals := 47 } s m args below meth c D A 7 Q [(m0, .inr (10, jmdl (upd R 44 0) mb)), ((mb 3), .inl (t 0, 8, .inl LN)), ((mb 2), .inl (t 0, 784, .inl CU))] [(0, .ref m0), (1, .int (nI r)), (2, .int (nI ch1)), (3, .int (nI sz1)), (4, .int (nI g1)), (5, .int acc), (6, .int (nI i))] 24 [] 0 0 := by
      intro d9
      induction d9 with
      | zero => intro i acc hi1 hi hq hmu; exact absurd hmu (Nat.not_lt_zero _)
      | succ d9 ih24 =>
        intro i acc hi1 hi hq hmu
        refine jr_iload CC (jd ddX11_low 15 rfl) 6 rfl ?_
        refine jr_aload_n CC (jd ddX11_low 16 rfl) 0 rfl ?_
        refine jr_iload_n CC (jd ddX11_low 17 rfl) 1 rfl ?_
        refine jr_iload_n CC (jd ddX11_low 18 rfl) 3 rfl ?_
        refine jr_iload CC (jd ddX11_low 19 rfl) 4 rfl ?_
        refine jr_callV (q0 := 0) (rest := [.int (nI i)]) [.int (nI r), .int (nI sz1), .int (nI g1)] CC (jd ddX11_low 20 rfl) (jy_X11_202 CC) (k_X11_end l t hfl m0 mb (upd R 44 0) LN r sz1 g1 kk (by first | assumption | omega | decide) (by first | assumption | omega | decide) (by first | assumption | omega | decide) (by first | assumption | omega | decide) hg1) [0, 1] rfl (by decide) rfl rfl rfl rfl (by decide) (Nat.le_of_ble_eq_true rfl) (by rintro v u h; rcases h with ⟨rfl, rfl⟩ <;> exact (show ([m0, (mb 3)] : List Nat) = [m0, (mb 3)] from rfl)) (fun _ _ h => h.elim) (fun _ _ h => h.elim) (fun v u h => ?_)
        rcases h with ⟨rfl, rfl⟩
        refine jr_norm [(m0, .inr (10, jmdl (upd R 44 0) mb)), ((mb 3), .inl (t 0, 8, .inl LN)), ((mb 2), .inl (t 0, 784, .inl CU))] [.int (nI (min (sz1 * g1 + sz1) kk)), .int (nI i)] 34 0 0 rfl rfl rfl rfl rfl ?_
        refine jr_icmp_ge 71 CC (jd ddX11_low 21 rfl) (by decide) (fun c6 => ?_) (fun c6 => ?_)
        · have n6 := jle_of (a := (min (sz1 * g1 + sz1) kk)) (b := i) c6 (by omega) (by omega)
          refine jr_iload CC (jd ddX11_low 39 rfl) 5 rfl ?_
          exact jr_iret CC MM (jd ddX11_low 40 rfl) rfl (by decide) (by decide) (Or.inl ⟨c1, by simp only [mLow, grpN, ntr, ntch1, ntsz1, ntg1, hkk, nI_tn (show kk < 2147483648 by omega)]; exact congrArg (fun z => some (Value.int z)) ((show jlo (mcol CU r ch1) ((min (sz1 * g1 + sz1) kk) - i) i acc = acc by rw [show (min (sz1 * g1 + sz1) kk) - i = 0 by omega]; rfl).symm.trans hq.symm), rfl⟩)
        · have n6 := jle_not (a := (min (sz1 * g1 + sz1) kk)) (b := i) c6 (by omega) (by omega)
          refine jr_aload_n CC (jd ddX11_low 22 rfl) 0 rfl ?_
          refine jr_iload_n CC (jd ddX11_low 23 rfl) 1 rfl ?_
          refine jr_iload_n CC (jd ddX11_low 24 rfl) 2 rfl ?_
          refine jr_iload CC (jd ddX11_low 25 rfl) 6 rfl ?_
          refine jr_callV (q0 := 0) (rest := []) [.int (nI r), .int (nI ch1), .int (nI i)] CC (jd ddX11_low 26 rfl) (jy_X11_195 CC) (k_X11_at l t hfl m0 mb (upd R 44 0) CU r ch1 i (by first | assumption | omega | decide) (by first | assumption | omega | decide) (by first | assumption | omega | decide)) [0, 2] rfl (by decide) rfl rfl rfl rfl (by decide) (Nat.le_of_ble_eq_true rfl) (by rintro v u h; rcases h with ⟨rfl, rfl⟩ <;> exact (show ([m0, (mb 2)] : List Nat) = [m0, (mb 2)] from rfl)) (fun _ _ h => h.elim) (fun _ _ h => h.elim) (fun v u h => ?_)
          rcases h with ⟨rfl, rfl⟩
          refine jr_norm [(m0, .inr (10, jmdl (upd R 44 0) mb)), ((mb 3), .inl (t 0, 8, .inl LN)), ((mb 2), .inl (t 0, 784, .inl CU))] [.int (mcol CU r ch1 i)] 45 0 0 rfl rfl rfl rfl rfl ?_
          refine jr_iload CC (jd ddX11_low 27 rfl) 5 rfl ?_
          refine jr_icmp_ge 61 CC (jd ddX11_low 28 rfl) (by decide) (fun c7 => ?_) (fun c7 => ?_)
          · refine jr_iload CC (jd ddX11_low 35 rfl) 5 rfl ?_
            refine jr_istore [(5, .int acc), (0, .ref m0), (1, .int (nI r)), (2, .int (nI ch1)), (3, .int (nI sz1)), (4, .int (nI g1)), (6, .int (nI i))] CC (jd ddX11_low 36 rfl) (by decide) rfl ?_
            refine jr_iinc [(6, .int (nI (i + 1))), (5, .int acc), (0, .ref m0), (1, .int (nI r)), (2, .int (nI ch1)), (3, .int (nI sz1)), (4, .int (nI g1))] CC (jd ddX11_low 37 rfl) 6 rfl (nI_1 _) (by decide) rfl ?_
            refine jr_goto 24 CC (jd ddX11_low 38 rfl) (by decide) ?_
            refine jr_norm [(m0, .inr (10, jmdl (upd R 44 0) mb)), ((mb 3), .inl (t 0, 8, .inl LN)), ((mb 2), .inl (t 0, 784, .inl CU))] [] 24 0 0 rfl rfl rfl rfl rfl ?_
            refine jr_lv [2, 3, 4, 5, 6, 1, 0] [(0, .ref m0), (1, .int (nI r)), (2, .int (nI ch1)), (3, .int (nI sz1)), (4, .int (nI g1)), (5, .int acc), (6, .int (nI (i + 1)))] rfl ?_
            exact ih24 (i + 1) acc (by omega) (by omega) (by rw [hq, show (min (sz1 * g1 + sz1) kk) - i = ((min (sz1 * g1 + sz1) kk) - (i + 1)) + 1 by omega]; show jlo (mcol CU r ch1) ((min (sz1 * g1 + sz1) kk) - (i + 1)) (i + 1) (jmin acc ((mcol CU r ch1) i)) = _; rw [jmin_ge c7]) (by omega)
          · refine jr_aload_n CC (jd ddX11_low 29 rfl) 0 rfl ?_
            refine jr_iload_n CC (jd ddX11_low 30 rfl) 1 rfl ?_
            refine jr_iload_n CC (jd ddX11_low 31 rfl) 2 rfl ?_
            refine jr_iload CC (jd ddX11_low 32 rfl) 6 rfl ?_
            refine jr_callV (q0 := 0) (rest := []) [.int (nI r), .int (nI ch1), .int (nI i)] CC (jd ddX11_low 33 rfl) (jy_X11_195 CC) (k_X11_at l t hfl m0 mb (upd R 44 0) CU r ch1 i (by first | assumption | omega | decide) (by first | assumption | omega | decide) (by first | assumption | omega | decide)) [0, 2] rfl (by decide) rfl rfl rfl rfl (by decide) (Nat.le_of_ble_eq_true rfl) (by rintro v u h; rcases h with ⟨rfl, rfl⟩ <;> exact (show ([m0, (mb 2)] : List Nat) = [m0, (mb 2)] from rfl)) (fun _ _ h => h.elim) (fun _ _ h => h.elim) (fun v u h => ?_)
            rcases h with ⟨rfl, rfl⟩
            refine jr_norm [(m0, .inr (10, jmdl (upd R 44 0) mb)), ((mb 3), .inl (t 0, 8, .inl LN)), ((mb 2), .inl (t 0, 784, .inl CU))] [.int (mcol CU r ch1 i)] 58 0 0 rfl rfl rfl rfl rfl ?_
            refine jr_goto 63 CC (jd ddX11_low 34 rfl) (by decide) ?_
            refine jr_istore [(5, .int (mcol CU r ch1 i)), (0, .ref m0), (1, .int (nI r)), (2, .int (nI ch1)), (3, .int (nI sz1)), (4, .int (nI g1)), (6, .int (nI i))] CC (jd ddX11_low 36 rfl) (by decide) rfl ?_
            refine jr_iinc [(6, .int (nI (i + 1))), (5, .int (mcol CU r ch1 i)), (0, .ref m0), (1, .int (nI r)), (2, .int (nI ch1)), (3, .int (nI sz1)), (4, .int (nI g1))] CC (jd ddX11_low 37 rfl) 6 rfl (nI_1 _) (by decide) rfl ?_
            refine jr_goto 24 CC (jd ddX11_low 38 rfl) (by decide) ?_
            refine jr_norm [(m0, .inr (10, jmdl (upd R 44 0) mb)), ((mb 3), .inl (t 0, 8, .inl LN)), ((mb 2), .inl (t 0, 784, .inl CU))] [] 24 0 0 rfl rfl rfl rfl rfl ?_
            refine jr_lv [2, 3, 4, 5, 6, 1, 0] [(0, .ref m0), (1, .int (nI r)), (2, .int (nI ch1)), (3, .int (nI sz1)), (4, .int (nI g1)), (5, .int (mcol CU r ch1 i)), (6, .int (nI (i + 1)))] rfl ?_
            exact ih24 (i + 1) (mcol CU r ch1 i) (by omega) (by omega) (by rw [hq, show (min (sz1 * g1 + sz1) kk) - i = ((min (sz1 * g1 + sz1) kk) - (i + 1)) + 1 by omega]; show jlo (mcol CU r ch1) ((min (sz1 * g1 + sz1) kk) - (i + 1)) (i + 1) (jmin acc ((mcol CU r ch1) i)) = _; rw [jmin_lt c7]) (by omega)
    refine jr_norm [(m0, .inr (10, jmdl (upd R 44 0) mb)), ((mb 3), .inl (t 0, 8, .inl LN)), ((mb 2), .inl (t 0, 784, .inl CU))] [] 24 0 0 rfl rfl rfl rfl rfl ?_
    refine jr_lv [2, 3, 4, 5, 6, 1, 0] [(0, .ref m0), (1, .int (nI r)), (2, .int (nI ch1)), (3, .int (nI sz1)), (4, .int (nI g1)), (5, .int 127), (6, .int (nI (sz1 * g1)))] rfl ?_
    exact hL5 ((min (sz1 * g1 + sz1) kk) - (sz1 * g1) + 1) (sz1 * g1) 127 (Nat.le_refl _) (by omega) rfl (Nat.lt_succ_self _)
  · refine jr_norm [(m0, .inr (10, jmdl (upd R 44 1) mb)), ((mb 3), .inl (t 0, 8, .inl LN)), ((mb 2), .inl (t 0, 784, .inl CU))] [.int 1] 9 0 0 rfl rfl rfl rfl rfl ?_
    refine jr_if_eq 14 CC (jd ddX11_low 6 rfl) (by decide) (fun h => absurd h (by decide)) (fun _ => ?_)
    refine jr_iconst (v := 0) CC (jd ddX11_low 7 rfl) (by decide) ?_
    exact jr_iret CC MM (jd ddX11_low 8 rfl) rfl (by decide) (by decide) (Or.inr (Or.inl ⟨c2, rfl, rfl⟩))
  · refine jr_norm [(m0, .inr (10, jmdl (upd R 44 2) mb)), ((mb 3), .inl (t 0, 8, .inl LN)), ((mb 2), .inl (t 0, 784, .inl CU))] [.int 1] 9 0 0 rfl rfl rfl rfl rfl ?_
    refine jr_if_eq 14 CC (jd ddX11_low 6 rfl) (by decide) (fun h => absurd h (by decide)) (fun _ => ?_)
    refine jr_iconst (v := 0) CC (jd ddX11_low 7 rfl) (by decide) ?_
    exact jr_iret CC MM (jd ddX11_low 8 rfl) rfl (by decide) (by decide) (Or.inr (Or.inr ⟨c3, rfl, rfl⟩))
set_option maxHeartbeats 8000000 in
set_option maxRecDepth 100000 in
theorem k_X11_high (l : Launch) (t : Nat → ClassId) (hfl : l.stackTraces = false) (m0 : Nat) (mb : Nat → Nat) (R : Nat → Int32) (LN : Nat → Int32) (CU : Nat → Int32) (m8 : Nat) (x : Int32) (ch : Int32) (sz : Int32) (g : Int32) (h28 : R 28 = nI m8) (hm8 : m8 ≤ 8) (hLN : lenOK LN m8) : jKx l t yX11_high (Cond.code yX11_high cX11_high 7 (some .int) :: jWS) { frames := 2, cells := 0, slots := 0, locals := 47 } [.ref m0, .int x, .int ch, .int sz, .int g] [(m0, .inr (10, jmdl R mb)), ((mb 3), .inl (t 0, 8, .inl LN)), ((mb 2), .inl (t 0, 784, .inl CU))] (fun vv uu => (((eGrp (R 28) x (LN x.toNatClampNeg) ch sz g) = 0) ∧ vv = some (.int (mHigh CU LN x ch sz g)) ∧ uu = [(m0, .inr (10, jmdl (upd R 44 0) mb)), ((mb 3), .inl (t 0, 8, .inl LN)), ((mb 2), .inl (t 0, 784, .inl CU))]) ∨ (((eGrp (R 28) x (LN x.toNatClampNeg) ch sz g) = 1) ∧ vv = some (.int 0) ∧ uu = [(m0, .inr (10, jmdl (upd R 44 1) mb)), ((mb 3), .inl (t 0, 8, .inl LN)), ((mb 2), .inl (t 0, 784, .inl CU))]) ∨ (((eGrp (R 28) x (LN x.toNatClampNeg) ch sz g) = 2) ∧ vv = some (.int 0) ∧ uu = [(m0, .inr (10, jmdl (upd R 44 2) mb)), ((mb 3), .inl (t 0, 8, .inl LN)), ((mb 2), .inl (t 0, 784, .inl CU))])) (fun _ _ => False) := by
  refine jK_of hfl (by decide +kernel) (Nat.le_of_ble_eq_true rfl) ?_
  intro p e s m args below meth c D A Q CC MM
  refine jr_norm0 [(0, .ref m0), (1, .int x), (2, .int ch), (3, .int sz), (4, .int g)] rfl ?_
  refine jr_aload_n CC (jd ddX11_high 0 rfl) 0 rfl ?_
  refine jr_iload_n CC (jd ddX11_high 1 rfl) 1 rfl ?_
  refine jr_iload_n CC (jd ddX11_high 2 rfl) 2 rfl ?_
  refine jr_iload_n CC (jd ddX11_high 3 rfl) 3 rfl ?_
  refine jr_iload CC (jd ddX11_high 4 rfl) 4 rfl ?_
  refine jr_callV (q0 := 0) (rest := []) [.int x, .int ch, .int sz, .int g] CC (jd ddX11_high 5 rfl) (jy_X11_198 CC) (k_X11_isNoGroup l t hfl m0 mb R LN m8 x ch sz g h28 hm8 hLN) [0, 1] rfl (by decide) rfl rfl rfl rfl (by decide) (Nat.le_of_ble_eq_true rfl) (by rintro v u h; rcases h with ⟨h0, rfl, rfl⟩ | ⟨h0, rfl, rfl⟩ | ⟨h0, rfl, rfl⟩ <;> exact (show ([m0, (mb 3)] : List Nat) = [m0, (mb 3)] from rfl)) (fun _ _ h => h.elim) (fun _ _ h => h.elim) (fun v u h => ?_)
  rcases h with ⟨c1, rfl, rfl⟩ | ⟨c2, rfl, rfl⟩ | ⟨c3, rfl, rfl⟩
  · refine jr_norm [(m0, .inr (10, jmdl (upd R 44 0) mb)), ((mb 3), .inl (t 0, 8, .inl LN)), ((mb 2), .inl (t 0, 784, .inl CU))] [.int 0] 9 0 0 rfl rfl rfl rfl rfl ?_
    refine jr_if_eq 14 CC (jd ddX11_high 6 rfl) (by decide) (fun _ => ?_) (fun h => absurd h (by decide))
    obtain ⟨⟨hc1, hc2⟩, hc3, hc4⟩ := eGrp_inv c1
    obtain ⟨r, hr, rfl⟩ := jrec_nat (h28 ▸ hc3) hm8
    have ntr : (nI r).toNatClampNeg = r := nI_tn (by omega)
    obtain ⟨kk, hkk, hk1, hk49⟩ := hLN r hr
    rw [ntr, hkk] at hc4
    obtain ⟨sz1, hsz1, rfl⟩ := jin_nat 16 hc2 (by decide) rfl
    have ntsz1 : (nI sz1).toNatClampNeg = sz1 := nI_tn (by omega)
    have hsz2 := jlt_not (b := 1) hc2.1 (by omega) (by decide)
    obtain ⟨g1, hg1, hg2, rfl⟩ : ∃ j : Nat, sz1 * j < kk ∧ j < 2147483648 ∧ g = nI j := by
      obtain ⟨j, h1, h2⟩ := jpos_grp hc4 hsz2 hsz1 hk49
      exact ⟨j, h1, Nat.lt_of_le_of_lt (Nat.le_mul_of_pos_left j hsz2) (by omega), h2⟩
    have ntg1 : (nI g1).toNatClampNeg = g1 := nI_tn (by omega)
    obtain ⟨ch1, hch1, rfl⟩ := jin_nat 1 hc1 (by decide) rfl
    have ntch1 : (nI ch1).toNatClampNeg = ch1 := nI_tn (by omega)
    refine jr_bipush (v := (-128)) CC (jd ddX11_high 9 rfl) (by decide) ?_
    refine jr_istore [(5, .int (-128)), (0, .ref m0), (1, .int (nI r)), (2, .int (nI ch1)), (3, .int (nI sz1)), (4, .int (nI g1))] CC (jd ddX11_high 10 rfl) (by decide) rfl ?_
    refine jr_iload_n CC (jd ddX11_high 11 rfl) 4 rfl ?_
    refine jr_iload CC (jd ddX11_high 12 rfl) 5 rfl ?_
    refine jr_imul CC (jd ddX11_high 13 rfl) ?_
    refine jr_st [.int (nI (sz1 * g1))] (jst1 (pk_mul sz1 g1)) ?_
    refine jr_istore [(6, .int (nI (sz1 * g1))), (5, .int (-128)), (0, .ref m0), (1, .int (nI r)), (2, .int (nI ch1)), (3, .int (nI sz1)), (4, .int (nI g1))] CC (jd ddX11_high 14 rfl) (by decide) rfl ?_
    have hL5 : ∀ (d9 : Nat) (i : Nat) (acc : Int32) (hi1 : (sz1 * g1) ≤ i) (hi : i ≤ (min (sz1 * g1 + sz1) kk)) (hq : jhi (mcol CU r ch1) ((min (sz1 * g1 + sz1) kk) - (sz1 * g1)) (sz1 * g1) (-128) = jhi (mcol CU r ch1) ((min (sz1 * g1 + sz1) kk) - i) i acc), (min (sz1 * g1 + sz1) kk) - i < d9 → J p l e { frames := 2, cells := 0, slots := 0, locals := 47 } s m args below meth c D A 7 Q [(m0, .inr (10, jmdl (upd R 44 0) mb)), ((mb 3), .inl (t 0, 8, .inl LN)), ((mb 2), .inl (t 0, 784, .inl CU))] [(0, .ref m0), (1, .int (nI r)), (2, .int (nI ch1)), (3, .int (nI sz1)), (4, .int (nI g1)), (5, .int acc), (6, .int (nI i))] 24 [] 0 0 := by
      intro d9
      induction d9 with
      | zero => intro i acc hi1 hi hq hmu; exact absurd hmu (Nat.not_lt_zero _)
      | succ d9 ih24 =>
        intro i acc hi1 hi hq hmu
        refine jr_iload CC (jd ddX11_high 15 rfl) 6 rfl ?_
        refine jr_aload_n CC (jd ddX11_high 16 rfl) 0 rfl ?_
        refine jr_iload_n CC (jd ddX11_high 17 rfl) 1 rfl ?_
        refine jr_iload_n CC (jd ddX11_high 18 rfl) 3 rfl ?_
        refine jr_iload CC (jd ddX11_high 19 rfl) 4 rfl ?_
        refine jr_callV (q0 := 0) (rest := [.int (nI i)]) [.int (nI r), .int (nI sz1), .int (nI g1)] CC (jd ddX11_high 20 rfl) (jy_X11_202 CC) (k_X11_end l t hfl m0 mb (upd R 44 0) LN r sz1 g1 kk (by first | assumption | omega | decide) (by first | assumption | omega | decide) (by first | assumption | omega | decide) (by first | assumption | omega | decide) hg1) [0, 1] rfl (by decide) rfl rfl rfl rfl (by decide) (Nat.le_of_ble_eq_true rfl) (by rintro v u h; rcases h with ⟨rfl, rfl⟩ <;> exact (show ([m0, (mb 3)] : List Nat) = [m0, (mb 3)] from rfl)) (fun _ _ h => h.elim) (fun _ _ h => h.elim) (fun v u h => ?_)
        rcases h with ⟨rfl, rfl⟩
        refine jr_norm [(m0, .inr (10, jmdl (upd R 44 0) mb)), ((mb 3), .inl (t 0, 8, .inl LN)), ((mb 2), .inl (t 0, 784, .inl CU))] [.int (nI (min (sz1 * g1 + sz1) kk)), .int (nI i)] 34 0 0 rfl rfl rfl rfl rfl ?_
        refine jr_icmp_ge 71 CC (jd ddX11_high 21 rfl) (by decide) (fun c6 => ?_) (fun c6 => ?_)
        · have n6 := jle_of (a := (min (sz1 * g1 + sz1) kk)) (b := i) c6 (by omega) (by omega)
          refine jr_iload CC (jd ddX11_high 39 rfl) 5 rfl ?_
          exact jr_iret CC MM (jd ddX11_high 40 rfl) rfl (by decide) (by decide) (Or.inl ⟨c1, by simp only [mHigh, grpN, ntr, ntch1, ntsz1, ntg1, hkk, nI_tn (show kk < 2147483648 by omega)]; exact congrArg (fun z => some (Value.int z)) ((show jhi (mcol CU r ch1) ((min (sz1 * g1 + sz1) kk) - i) i acc = acc by rw [show (min (sz1 * g1 + sz1) kk) - i = 0 by omega]; rfl).symm.trans hq.symm), rfl⟩)
        · have n6 := jle_not (a := (min (sz1 * g1 + sz1) kk)) (b := i) c6 (by omega) (by omega)
          refine jr_aload_n CC (jd ddX11_high 22 rfl) 0 rfl ?_
          refine jr_iload_n CC (jd ddX11_high 23 rfl) 1 rfl ?_
          refine jr_iload_n CC (jd ddX11_high 24 rfl) 2 rfl ?_
          refine jr_iload CC (jd ddX11_high 25 rfl) 6 rfl ?_
          refine jr_callV (q0 := 0) (rest := []) [.int (nI r), .int (nI ch1), .int (nI i)] CC (jd ddX11_high 26 rfl) (jy_X11_195 CC) (k_X11_at l t hfl m0 mb (upd R 44 0) CU r ch1 i (by first | assumption | omega | decide) (by first | assumption | omega | decide) (by first | assumption | omega | decide)) [0, 2] rfl (by decide) rfl rfl rfl rfl (by decide) (Nat.le_of_ble_eq_true rfl) (by rintro v u h; rcases h with ⟨rfl, rfl⟩ <;> exact (show ([m0, (mb 2)] : List Nat) = [m0, (mb 2)] from rfl)) (fun _ _ h => h.elim) (fun _ _ h => h.elim) (fun v u h => ?_)
          rcases h with ⟨rfl, rfl⟩
          refine jr_norm [(m0, .inr (10, jmdl (upd R 44 0) mb)), ((mb 3), .inl (t 0, 8, .inl LN)), ((mb 2), .inl (t 0, 784, .inl CU))] [.int (mcol CU r ch1 i)] 45 0 0 rfl rfl rfl rfl rfl ?_
          refine jr_iload CC (jd ddX11_high 27 rfl) 5 rfl ?_
          refine jr_icmp_le 61 CC (jd ddX11_high 28 rfl) (by decide) (fun c7 => ?_) (fun c7 => ?_)
          · refine jr_iload CC (jd ddX11_high 35 rfl) 5 rfl ?_
            refine jr_istore [(5, .int acc), (0, .ref m0), (1, .int (nI r)), (2, .int (nI ch1)), (3, .int (nI sz1)), (4, .int (nI g1)), (6, .int (nI i))] CC (jd ddX11_high 36 rfl) (by decide) rfl ?_
            refine jr_iinc [(6, .int (nI (i + 1))), (5, .int acc), (0, .ref m0), (1, .int (nI r)), (2, .int (nI ch1)), (3, .int (nI sz1)), (4, .int (nI g1))] CC (jd ddX11_high 37 rfl) 6 rfl (nI_1 _) (by decide) rfl ?_
            refine jr_goto 24 CC (jd ddX11_high 38 rfl) (by decide) ?_
            refine jr_norm [(m0, .inr (10, jmdl (upd R 44 0) mb)), ((mb 3), .inl (t 0, 8, .inl LN)), ((mb 2), .inl (t 0, 784, .inl CU))] [] 24 0 0 rfl rfl rfl rfl rfl ?_
            refine jr_lv [2, 3, 4, 5, 6, 1, 0] [(0, .ref m0), (1, .int (nI r)), (2, .int (nI ch1)), (3, .int (nI sz1)), (4, .int (nI g1)), (5, .int acc), (6, .int (nI (i + 1)))] rfl ?_
            exact ih24 (i + 1) acc (by omega) (by omega) (by rw [hq, show (min (sz1 * g1 + sz1) kk) - i = ((min (sz1 * g1 + sz1) kk) - (i + 1)) + 1 by omega]; show jhi (mcol CU r ch1) ((min (sz1 * g1 + sz1) kk) - (i + 1)) (i + 1) (jmax acc ((mcol CU r ch1) i)) = _; rw [jmax_ge c7]) (by omega)
          · refine jr_aload_n CC (jd ddX11_high 29 rfl) 0 rfl ?_
            refine jr_iload_n CC (jd ddX11_high 30 rfl) 1 rfl ?_
            refine jr_iload_n CC (jd ddX11_high 31 rfl) 2 rfl ?_
            refine jr_iload CC (jd ddX11_high 32 rfl) 6 rfl ?_
            refine jr_callV (q0 := 0) (rest := []) [.int (nI r), .int (nI ch1), .int (nI i)] CC (jd ddX11_high 33 rfl) (jy_X11_195 CC) (k_X11_at l t hfl m0 mb (upd R 44 0) CU r ch1 i (by first | assumption | omega | decide) (by first | assumption | omega | decide) (by first | assumption | omega | decide)) [0, 2] rfl (by decide) rfl rfl rfl rfl (by decide) (Nat.le_of_ble_eq_true rfl) (by rintro v u h; rcases h with ⟨rfl, rfl⟩ <;> exact (show ([m0, (mb 2)] : List Nat) = [m0, (mb 2)] from rfl)) (fun _ _ h => h.elim) (fun _ _ h => h.elim) (fun v u h => ?_)
            rcases h with ⟨rfl, rfl⟩
            refine jr_norm [(m0, .inr (10, jmdl (upd R 44 0) mb)), ((mb 3), .inl (t 0, 8, .inl LN)), ((mb 2), .inl (t 0, 784, .inl CU))] [.int (mcol CU r ch1 i)] 58 0 0 rfl rfl rfl rfl rfl ?_
            refine jr_goto 63 CC (jd ddX11_high 34 rfl) (by decide) ?_
            refine jr_istore [(5, .int (mcol CU r ch1 i)), (0, .ref m0), (1, .int (nI r)), (2, .int (nI ch1)), (3, .int (nI sz1)), (4, .int (nI g1)), (6, .int (nI i))] CC (jd ddX11_high 36 rfl) (by decide) rfl ?_
            refine jr_iinc [(6, .int (nI (i + 1))), (5, .int (mcol CU r ch1 i)), (0, .ref m0), (1, .int (nI r)), (2, .int (nI ch1)), (3, .int (nI sz1)), (4, .int (nI g1))] CC (jd ddX11_high 37 rfl) 6 rfl (nI_1 _) (by decide) rfl ?_
            refine jr_goto 24 CC (jd ddX11_high 38 rfl) (by decide) ?_
            refine jr_norm [(m0, .inr (10, jmdl (upd R 44 0) mb)), ((mb 3), .inl (t 0, 8, .inl LN)), ((mb 2), .inl (t 0, 784, .inl CU))] [] 24 0 0 rfl rfl rfl rfl rfl ?_
            refine jr_lv [2, 3, 4, 5, 6, 1, 0] [(0, .ref m0), (1, .int (nI r)), (2, .int (nI ch1)), (3, .int (nI sz1)), (4, .int (nI g1)), (5, .int (mcol CU r ch1 i)), (6, .int (nI (i + 1)))] rfl ?_
            exact ih24 (i + 1) (mcol CU r ch1 i) (by omega) (by omega) (by rw [hq, show (min (sz1 * g1 + sz1) kk) - i = ((min (sz1 * g1 + sz1) kk) - (i + 1)) + 1 by omega]; show jhi (mcol CU r ch1) ((min (sz1 * g1 + sz1) kk) - (i + 1)) (i + 1) (jmax acc ((mcol CU r ch1) i)) = _; rw [jmax_lt c7]) (by omega)
    refine jr_norm [(m0, .inr (10, jmdl (upd R 44 0) mb)), ((mb 3), .inl (t 0, 8, .inl LN)), ((mb 2), .inl (t 0, 784, .inl CU))] [] 24 0 0 rfl rfl rfl rfl rfl ?_
    refine jr_lv [2, 3, 4, 5, 6, 1, 0] [(0, .ref m0), (1, .int (nI r)), (2, .int (nI ch1)), (3, .int (nI sz1)), (4, .int (nI g1)), (5, .int (-128)), (6, .int (nI (sz1 * g1)))] rfl ?_
    exact hL5 ((min (sz1 * g1 + sz1) kk) - (sz1 * g1) + 1) (sz1 * g1) (-128) (Nat.le_refl _) (by omega) rfl (Nat.lt_succ_self _)
  · refine jr_norm [(m0, .inr (10, jmdl (upd R 44 1) mb)), ((mb 3), .inl (t 0, 8, .inl LN)), ((mb 2), .inl (t 0, 784, .inl CU))] [.int 1] 9 0 0 rfl rfl rfl rfl rfl ?_
    refine jr_if_eq 14 CC (jd ddX11_high 6 rfl) (by decide) (fun h => absurd h (by decide)) (fun _ => ?_)
    refine jr_iconst (v := 0) CC (jd ddX11_high 7 rfl) (by decide) ?_
    exact jr_iret CC MM (jd ddX11_high 8 rfl) rfl (by decide) (by decide) (Or.inr (Or.inl ⟨c2, rfl, rfl⟩))
  · refine jr_norm [(m0, .inr (10, jmdl (upd R 44 2) mb)), ((mb 3), .inl (t 0, 8, .inl LN)), ((mb 2), .inl (t 0, 784, .inl CU))] [.int 1] 9 0 0 rfl rfl rfl rfl rfl ?_
    refine jr_if_eq 14 CC (jd ddX11_high 6 rfl) (by decide) (fun h => absurd h (by decide)) (fun _ => ?_)
    refine jr_iconst (v := 0) CC (jd ddX11_high 7 rfl) (by decide) ?_
    exact jr_iret CC MM (jd ddX11_high 8 rfl) rfl (by decide) (by decide) (Or.inr (Or.inr ⟨c3, rfl, rfl⟩))
set_option maxHeartbeats 8000000 in
set_option maxRecDepth 100000 in
theorem k_X11_mean (l : Launch) (t : Nat → ClassId) (hfl : l.stackTraces = false) (m0 : Nat) (mb : Nat → Nat) (R : Nat → Int32) (LN : Nat → Int32) (CU : Nat → Int32) (m8 : Nat) (x : Int32) (ch : Int32) (sz : Int32) (g : Int32) (h28 : R 28 = nI m8) (hm8 : m8 ≤ 8) (hLN : lenOK LN m8) : jKx l t yX11_mean (Cond.code yX11_mean cX11_mean 8 (some .int) :: jWS) { frames := 2, cells := 0, slots := 0, locals := 47 } [.ref m0, .int x, .int ch, .int sz, .int g] [(m0, .inr (10, jmdl R mb)), ((mb 3), .inl (t 0, 8, .inl LN)), ((mb 2), .inl (t 0, 784, .inl CU))] (fun vv uu => (((eGrp (R 28) x (LN x.toNatClampNeg) ch sz g) = 0) ∧ vv = some (.int (mMean CU LN x ch sz g)) ∧ uu = [(m0, .inr (10, jmdl (upd R 44 0) mb)), ((mb 3), .inl (t 0, 8, .inl LN)), ((mb 2), .inl (t 0, 784, .inl CU))]) ∨ (((eGrp (R 28) x (LN x.toNatClampNeg) ch sz g) = 1) ∧ vv = some (.int 0) ∧ uu = [(m0, .inr (10, jmdl (upd R 44 1) mb)), ((mb 3), .inl (t 0, 8, .inl LN)), ((mb 2), .inl (t 0, 784, .inl CU))]) ∨ (((eGrp (R 28) x (LN x.toNatClampNeg) ch sz g) = 2) ∧ vv = some (.int 0) ∧ uu = [(m0, .inr (10, jmdl (upd R 44 2) mb)), ((mb 3), .inl (t 0, 8, .inl LN)), ((mb 2), .inl (t 0, 784, .inl CU))])) (fun _ _ => False) := by
  refine jK_of hfl (by decide +kernel) (Nat.le_of_ble_eq_true rfl) ?_
  intro p e s m args below meth c D A Q CC MM
  refine jr_norm0 [(0, .ref m0), (1, .int x), (2, .int ch), (3, .int sz), (4, .int g)] rfl ?_
  refine jr_aload_n CC (jd ddX11_mean 0 rfl) 0 rfl ?_
  refine jr_iload_n CC (jd ddX11_mean 1 rfl) 1 rfl ?_
  refine jr_iload_n CC (jd ddX11_mean 2 rfl) 2 rfl ?_
  refine jr_iload_n CC (jd ddX11_mean 3 rfl) 3 rfl ?_
  refine jr_iload CC (jd ddX11_mean 4 rfl) 4 rfl ?_
  refine jr_callV (q0 := 0) (rest := []) [.int x, .int ch, .int sz, .int g] CC (jd ddX11_mean 5 rfl) (jy_X11_198 CC) (k_X11_isNoGroup l t hfl m0 mb R LN m8 x ch sz g h28 hm8 hLN) [0, 1] rfl (by decide) rfl rfl rfl rfl (by decide) (Nat.le_of_ble_eq_true rfl) (by rintro v u h; rcases h with ⟨h0, rfl, rfl⟩ | ⟨h0, rfl, rfl⟩ | ⟨h0, rfl, rfl⟩ <;> exact (show ([m0, (mb 3)] : List Nat) = [m0, (mb 3)] from rfl)) (fun _ _ h => h.elim) (fun _ _ h => h.elim) (fun v u h => ?_)
  rcases h with ⟨c1, rfl, rfl⟩ | ⟨c2, rfl, rfl⟩ | ⟨c3, rfl, rfl⟩
  · refine jr_norm [(m0, .inr (10, jmdl (upd R 44 0) mb)), ((mb 3), .inl (t 0, 8, .inl LN)), ((mb 2), .inl (t 0, 784, .inl CU))] [.int 0] 9 0 0 rfl rfl rfl rfl rfl ?_
    refine jr_if_eq 14 CC (jd ddX11_mean 6 rfl) (by decide) (fun _ => ?_) (fun h => absurd h (by decide))
    obtain ⟨⟨hc1, hc2⟩, hc3, hc4⟩ := eGrp_inv c1
    obtain ⟨r, hr, rfl⟩ := jrec_nat (h28 ▸ hc3) hm8
    have ntr : (nI r).toNatClampNeg = r := nI_tn (by omega)
    obtain ⟨kk, hkk, hk1, hk49⟩ := hLN r hr
    rw [ntr, hkk] at hc4
    obtain ⟨sz1, hsz1, rfl⟩ := jin_nat 16 hc2 (by decide) rfl
    have ntsz1 : (nI sz1).toNatClampNeg = sz1 := nI_tn (by omega)
    have hsz2 := jlt_not (b := 1) hc2.1 (by omega) (by decide)
    obtain ⟨g1, hg1, hg2, rfl⟩ : ∃ j : Nat, sz1 * j < kk ∧ j < 2147483648 ∧ g = nI j := by
      obtain ⟨j, h1, h2⟩ := jpos_grp hc4 hsz2 hsz1 hk49
      exact ⟨j, h1, Nat.lt_of_le_of_lt (Nat.le_mul_of_pos_left j hsz2) (by omega), h2⟩
    have ntg1 : (nI g1).toNatClampNeg = g1 := nI_tn (by omega)
    obtain ⟨ch1, hch1, rfl⟩ := jin_nat 1 hc1 (by decide) rfl
    have ntch1 : (nI ch1).toNatClampNeg = ch1 := nI_tn (by omega)
    refine jr_aload_n CC (jd ddX11_mean 9 rfl) 0 rfl ?_
    refine jr_iload_n CC (jd ddX11_mean 10 rfl) 1 rfl ?_
    refine jr_iload_n CC (jd ddX11_mean 11 rfl) 3 rfl ?_
    refine jr_iload CC (jd ddX11_mean 12 rfl) 4 rfl ?_
    refine jr_callV (q0 := 0) (rest := []) [.int (nI r), .int (nI sz1), .int (nI g1)] CC (jd ddX11_mean 13 rfl) (jy_X11_202 CC) (k_X11_end l t hfl m0 mb (upd R 44 0) LN r sz1 g1 kk (by first | assumption | omega | decide) (by first | assumption | omega | decide) (by first | assumption | omega | decide) (by first | assumption | omega | decide) hg1) [0, 1] rfl (by decide) rfl rfl rfl rfl (by decide) (Nat.le_of_ble_eq_true rfl) (by rintro v u h; rcases h with ⟨rfl, rfl⟩ <;> exact (show ([m0, (mb 3)] : List Nat) = [m0, (mb 3)] from rfl)) (fun _ _ h => h.elim) (fun _ _ h => h.elim) (fun v u h => ?_)
    rcases h with ⟨rfl, rfl⟩
    refine jr_norm [(m0, .inr (10, jmdl (upd R 44 0) mb)), ((mb 3), .inl (t 0, 8, .inl LN)), ((mb 2), .inl (t 0, 784, .inl CU))] [.int (nI (min (sz1 * g1 + sz1) kk))] 22 0 0 rfl rfl rfl rfl rfl ?_
    refine jr_iload_n CC (jd ddX11_mean 14 rfl) 3 rfl ?_
    refine jr_iload CC (jd ddX11_mean 15 rfl) 4 rfl ?_
    refine jr_imul CC (jd ddX11_mean 16 rfl) ?_
    refine jr_st [.int (nI (sz1 * g1)), .int (nI (min (sz1 * g1 + sz1) kk))] (jst1 (pk_mul sz1 g1)) ?_
    refine jr_isub CC (jd ddX11_mean 17 rfl) ?_
    refine jr_st [.int (nI ((min (sz1 * g1 + sz1) kk) - (sz1 * g1)))] (jst1 (pk_sub (a := (min (sz1 * g1 + sz1) kk)) (b := (sz1 * g1)) (by omega))) ?_
    refine jr_istore [(5, .int (nI ((min (sz1 * g1 + sz1) kk) - (sz1 * g1)))), (0, .ref m0), (1, .int (nI r)), (2, .int (nI ch1)), (3, .int (nI sz1)), (4, .int (nI g1))] CC (jd ddX11_mean 18 rfl) (by decide) rfl ?_
    refine jr_iconst (v := 0) CC (jd ddX11_mean 19 rfl) (by decide) ?_
    refine jr_istore [(6, .int 0), (5, .int (nI ((min (sz1 * g1 + sz1) kk) - (sz1 * g1)))), (0, .ref m0), (1, .int (nI r)), (2, .int (nI ch1)), (3, .int (nI sz1)), (4, .int (nI g1))] CC (jd ddX11_mean 20 rfl) (by decide) rfl ?_
    refine jr_iconst (v := 0) CC (jd ddX11_mean 21 rfl) (by decide) ?_
    refine jr_istore [(7, .int 0), (6, .int 0), (5, .int (nI ((min (sz1 * g1 + sz1) kk) - (sz1 * g1)))), (0, .ref m0), (1, .int (nI r)), (2, .int (nI ch1)), (3, .int (nI sz1)), (4, .int (nI g1))] CC (jd ddX11_mean 22 rfl) (by decide) rfl ?_
    have hL5 : ∀ (d9 : Nat) (i : Nat) (acc : Int32) (hi : i ≤ ((min (sz1 * g1 + sz1) kk) - (sz1 * g1))) (hq : jsum (fun j => mcol CU r ch1 j + 128) ((min (sz1 * g1 + sz1) kk) - (sz1 * g1)) (sz1 * g1) 0 = jsum (fun j => mcol CU r ch1 j + 128) (((min (sz1 * g1 + sz1) kk) - (sz1 * g1)) - i) ((sz1 * g1) + i) acc), ((min (sz1 * g1 + sz1) kk) - (sz1 * g1)) - i < d9 → J p l e { frames := 2, cells := 0, slots := 0, locals := 47 } s m args below meth c D A 8 Q [(m0, .inr (10, jmdl (upd R 44 0) mb)), ((mb 3), .inl (t 0, 8, .inl LN)), ((mb 2), .inl (t 0, 784, .inl CU))] [(0, .ref m0), (1, .int (nI r)), (2, .int (nI ch1)), (3, .int (nI sz1)), (4, .int (nI g1)), (5, .int (nI ((min (sz1 * g1 + sz1) kk) - (sz1 * g1)))), (6, .int acc), (7, .int (nI i))] 35 [] 0 0 := by
      intro d9
      induction d9 with
      | zero => intro i acc hi hq hmu; exact absurd hmu (Nat.not_lt_zero _)
      | succ d9 ih35 =>
        intro i acc hi hq hmu
        refine jr_iload CC (jd ddX11_mean 23 rfl) 7 rfl ?_
        refine jr_iload CC (jd ddX11_mean 24 rfl) 5 rfl ?_
        refine jr_icmp_ge 70 CC (jd ddX11_mean 25 rfl) (by decide) (fun c6 => ?_) (fun c6 => ?_)
        · have n6 := jle_of (a := ((min (sz1 * g1 + sz1) kk) - (sz1 * g1))) (b := i) c6 (by omega) (by omega)
          refine jr_iload CC (jd ddX11_mean 42 rfl) 6 rfl ?_
          refine jr_iload CC (jd ddX11_mean 43 rfl) 5 rfl ?_
          refine jr_idiv CC (jd ddX11_mean 44 rfl) (nI_ne0 (by omega) (by omega)) ?_
          refine jr_sipush (v := 128) CC (jd ddX11_mean 45 rfl) (by decide) ?_
          refine jr_isub CC (jd ddX11_mean 46 rfl) ?_
          exact jr_iret CC MM (jd ddX11_mean 47 rfl) rfl (by decide) (by decide) (Or.inl ⟨c1, by simp only [mMean, grpN, ntr, ntch1, ntsz1, ntg1, hkk, nI_tn (show kk < 2147483648 by omega)]; exact congrArg (fun z => some (Value.int (z / nI ((min (sz1 * g1 + sz1) kk) - (sz1 * g1)) - 128))) ((show jsum (fun j => mcol CU r ch1 j + 128) (((min (sz1 * g1 + sz1) kk) - (sz1 * g1)) - i) ((sz1 * g1) + i) acc = acc by rw [show ((min (sz1 * g1 + sz1) kk) - (sz1 * g1)) - i = 0 by omega]; rfl).symm.trans hq.symm), rfl⟩)
        · have n6 := jle_not (a := ((min (sz1 * g1 + sz1) kk) - (sz1 * g1))) (b := i) c6 (by omega) (by omega)
          refine jr_iload CC (jd ddX11_mean 26 rfl) 6 rfl ?_
          refine jr_aload_n CC (jd ddX11_mean 27 rfl) 0 rfl ?_
          refine jr_iload_n CC (jd ddX11_mean 28 rfl) 1 rfl ?_
          refine jr_iload_n CC (jd ddX11_mean 29 rfl) 2 rfl ?_
          refine jr_iload_n CC (jd ddX11_mean 30 rfl) 3 rfl ?_
          refine jr_iload CC (jd ddX11_mean 31 rfl) 4 rfl ?_
          refine jr_imul CC (jd ddX11_mean 32 rfl) ?_
          refine jr_st [.int (nI (sz1 * g1)), .int (nI ch1), .int (nI r), .ref m0, .int acc] (jst1 (pk_mul sz1 g1)) ?_
          refine jr_pc (pc' := 51) rfl ?_
          refine jr_iload CC (jd ddX11_mean 33 rfl) 7 rfl ?_
          refine jr_iadd CC (jd ddX11_mean 34 rfl) ?_
          refine jr_st [.int (nI ((sz1 * g1) + i)), .int (nI ch1), .int (nI r), .ref m0, .int acc] (jst1 (nI_add (sz1 * g1) i)) ?_
          refine jr_callV (q0 := 0) (rest := [.int acc]) [.int (nI r), .int (nI ch1), .int (nI ((sz1 * g1) + i))] CC (jd ddX11_mean 35 rfl) (jy_X11_195 CC) (k_X11_at l t hfl m0 mb (upd R 44 0) CU r ch1 ((sz1 * g1) + i) (by first | assumption | omega | decide) (by first | assumption | omega | decide) (by first | assumption | omega | decide)) [0, 2] rfl (by decide) rfl rfl rfl rfl (by decide) (Nat.le_of_ble_eq_true rfl) (by rintro v u h; rcases h with ⟨rfl, rfl⟩ <;> exact (show ([m0, (mb 2)] : List Nat) = [m0, (mb 2)] from rfl)) (fun _ _ h => h.elim) (fun _ _ h => h.elim) (fun v u h => ?_)
          rcases h with ⟨rfl, rfl⟩
          refine jr_norm [(m0, .inr (10, jmdl (upd R 44 0) mb)), ((mb 3), .inl (t 0, 8, .inl LN)), ((mb 2), .inl (t 0, 784, .inl CU))] [.int (mcol CU r ch1 ((sz1 * g1) + i)), .int acc] 57 0 0 rfl rfl rfl rfl rfl ?_
          refine jr_sipush (v := 128) CC (jd ddX11_mean 36 rfl) (by decide) ?_
          refine jr_iadd CC (jd ddX11_mean 37 rfl) ?_
          refine jr_iadd CC (jd ddX11_mean 38 rfl) ?_
          refine jr_istore [(6, .int (acc + ((mcol CU r ch1 ((sz1 * g1) + i)) + 128))), (0, .ref m0), (1, .int (nI r)), (2, .int (nI ch1)), (3, .int (nI sz1)), (4, .int (nI g1)), (5, .int (nI ((min (sz1 * g1 + sz1) kk) - (sz1 * g1)))), (7, .int (nI i))] CC (jd ddX11_mean 39 rfl) (by decide) rfl ?_
          refine jr_iinc [(7, .int (nI (i + 1))), (6, .int (acc + ((mcol CU r ch1 ((sz1 * g1) + i)) + 128))), (0, .ref m0), (1, .int (nI r)), (2, .int (nI ch1)), (3, .int (nI sz1)), (4, .int (nI g1)), (5, .int (nI ((min (sz1 * g1 + sz1) kk) - (sz1 * g1))))] CC (jd ddX11_mean 40 rfl) 7 rfl (nI_1 _) (by decide) rfl ?_
          refine jr_goto 35 CC (jd ddX11_mean 41 rfl) (by decide) ?_
          refine jr_norm [(m0, .inr (10, jmdl (upd R 44 0) mb)), ((mb 3), .inl (t 0, 8, .inl LN)), ((mb 2), .inl (t 0, 784, .inl CU))] [] 35 0 0 rfl rfl rfl rfl rfl ?_
          refine jr_lv [2, 3, 4, 5, 6, 7, 1, 0] [(0, .ref m0), (1, .int (nI r)), (2, .int (nI ch1)), (3, .int (nI sz1)), (4, .int (nI g1)), (5, .int (nI ((min (sz1 * g1 + sz1) kk) - (sz1 * g1)))), (6, .int (acc + ((mcol CU r ch1 ((sz1 * g1) + i)) + 128))), (7, .int (nI (i + 1)))] rfl ?_
          exact ih35 (i + 1) (acc + ((mcol CU r ch1 ((sz1 * g1) + i)) + 128)) (by omega) (by rw [hq, show ((min (sz1 * g1 + sz1) kk) - (sz1 * g1)) - i = (((min (sz1 * g1 + sz1) kk) - (sz1 * g1)) - (i + 1)) + 1 by omega]; rfl) (by omega)
    refine jr_norm [(m0, .inr (10, jmdl (upd R 44 0) mb)), ((mb 3), .inl (t 0, 8, .inl LN)), ((mb 2), .inl (t 0, 784, .inl CU))] [] 35 0 0 rfl rfl rfl rfl rfl ?_
    refine jr_lv [3, 4, 5, 6, 7, 2, 1, 0] [(0, .ref m0), (1, .int (nI r)), (2, .int (nI ch1)), (3, .int (nI sz1)), (4, .int (nI g1)), (5, .int (nI ((min (sz1 * g1 + sz1) kk) - (sz1 * g1)))), (6, .int 0), (7, .int (nI 0))] rfl ?_
    exact hL5 (((min (sz1 * g1 + sz1) kk) - (sz1 * g1)) - 0 + 1) 0 0 (by omega) rfl (Nat.lt_succ_self _)
  · refine jr_norm [(m0, .inr (10, jmdl (upd R 44 1) mb)), ((mb 3), .inl (t 0, 8, .inl LN)), ((mb 2), .inl (t 0, 784, .inl CU))] [.int 1] 9 0 0 rfl rfl rfl rfl rfl ?_
    refine jr_if_eq 14 CC (jd ddX11_mean 6 rfl) (by decide) (fun h => absurd h (by decide)) (fun _ => ?_)
    refine jr_iconst (v := 0) CC (jd ddX11_mean 7 rfl) (by decide) ?_
    exact jr_iret CC MM (jd ddX11_mean 8 rfl) rfl (by decide) (by decide) (Or.inr (Or.inl ⟨c2, rfl, rfl⟩))
  · refine jr_norm [(m0, .inr (10, jmdl (upd R 44 2) mb)), ((mb 3), .inl (t 0, 8, .inl LN)), ((mb 2), .inl (t 0, 784, .inl CU))] [.int 1] 9 0 0 rfl rfl rfl rfl rfl ?_
    refine jr_if_eq 14 CC (jd ddX11_mean 6 rfl) (by decide) (fun h => absurd h (by decide)) (fun _ => ?_)
    refine jr_iconst (v := 0) CC (jd ddX11_mean 7 rfl) (by decide) ?_
    exact jr_iret CC MM (jd ddX11_mean 8 rfl) rfl (by decide) (by decide) (Or.inr (Or.inr ⟨c3, rfl, rfl⟩))
set_option maxHeartbeats 8000000 in
set_option maxRecDepth 100000 in
theorem k_X11_rescan (l : Launch) (t : Nat → ClassId) (hfl : l.stackTraces = false) (m0 : Nat) (mb : Nat → Nat) (R : Nat → Int32) (LN : Nat → Int32) (CU : Nat → Int32) (m8 : Nat) (x : Int32) (hB : mBool R) (h28 : R 28 = nI m8) (hm8 : m8 ≤ 8) (hLN : lenOK LN m8) : jKx l t yX11_rescan (Cond.code yX11_rescan cX11_rescan 14 (some .int) :: jWS) { frames := 2, cells := 0, slots := 0, locals := 49 } [.ref m0, .int x] [(m0, .inr (10, jmdl R mb)), ((mb 3), .inl (t 0, 8, .inl LN)), ((mb 2), .inl (t 0, 784, .inl CU))] (fun vv uu => (((eRec (R 28) x) = 0) ∧ vv = some (.int (mscS CU x.toNatClampNeg (upd R 44 0) (LN x.toNatClampNeg).toNatClampNeg)) ∧ uu = [(m0, .inr (10, jmdl (mRest R (mscG CU x.toNatClampNeg (upd R 44 0) (LN x.toNatClampNeg).toNatClampNeg)) mb)), ((mb 3), .inl (t 0, 8, .inl LN)), ((mb 2), .inl (t 0, 784, .inl CU))]) ∨ (((eRec (R 28) x) = 1) ∧ vv = some (.int 0) ∧ uu = [(m0, .inr (10, jmdl (upd R 44 1) mb)), ((mb 3), .inl (t 0, 8, .inl LN)), ((mb 2), .inl (t 0, 784, .inl CU))])) (fun _ _ => False) := by
  refine jK_of hfl (by decide +kernel) (Nat.le_of_ble_eq_true rfl) ?_
  intro p e s m args below meth c D A Q CC MM
  refine jr_norm0 [(0, .ref m0), (1, .int x)] rfl ?_
  refine jr_aload_n CC (jd ddX11_rescan 0 rfl) 0 rfl ?_
  refine jr_aload_n CC (jd ddX11_rescan 1 rfl) 0 rfl ?_
  refine jr_iload_n CC (jd ddX11_rescan 2 rfl) 1 rfl ?_
  refine jr_callV (q0 := 0) (rest := [.ref m0]) [.int x] CC (jd ddX11_rescan 3 rfl) (jy_X11_189 CC) (k_X11_isRecord l t hfl m0 mb R x) [0] rfl (by decide) rfl rfl rfl rfl (by decide) (Nat.le_of_ble_eq_true rfl) (by rintro v u h; rcases h with ⟨rfl, rfl⟩ <;> exact (show ([m0] : List Nat) = [m0] from rfl)) (fun _ _ h => h.elim) (fun _ _ h => h.elim) (fun v u h => ?_)
  rcases h with ⟨rfl, rfl⟩
  refine jr_norm [(m0, .inr (10, jmdl R mb)), ((mb 3), .inl (t 0, 8, .inl LN)), ((mb 2), .inl (t 0, 784, .inl CU))] [.int (mRec (R 28) x), .ref m0] 6 0 0 rfl rfl rfl rfl rfl ?_
  refine jr_if_eq 13 CC (jd ddX11_rescan 4 rfl) (by decide) (fun c1 => ?_) (fun c1 => ?_)
  · refine jr_iconst (v := 1) CC (jd ddX11_rescan 7 rfl) (by decide) ?_
    refine jr_callV (q0 := 0) (rest := []) [.int 1] CC (jd ddX11_rescan 8 rfl) (jy_X11_111 CC) (k_X11_fails_1 l t hfl m0 mb R) [0] rfl (by decide) rfl rfl rfl rfl (by decide) (Nat.le_of_ble_eq_true rfl) (by rintro v u h; rcases h with ⟨rfl, rfl⟩ <;> exact (show ([m0] : List Nat) = [m0] from rfl)) (fun _ _ h => h.elim) (fun _ _ h => h.elim) (fun v u h => ?_)
    rcases h with ⟨rfl, rfl⟩
    refine jr_norm [(m0, .inr (10, jmdl (upd R 44 1) mb)), ((mb 3), .inl (t 0, 8, .inl LN)), ((mb 2), .inl (t 0, 784, .inl CU))] [.int 1] 17 0 0 rfl rfl rfl rfl rfl ?_
    refine jr_if_eq 22 CC (jd ddX11_rescan 9 rfl) (by decide) (fun h => absurd h (by decide)) (fun _ => ?_)
    refine jr_iconst (v := 0) CC (jd ddX11_rescan 10 rfl) (by decide) ?_
    exact jr_iret CC MM (jd ddX11_rescan 11 rfl) rfl (by decide) (by decide) (Or.inr ⟨by simp [eRec, jI, jrec_iff, c1], rfl, rfl⟩)
  · refine jr_iconst (v := 0) CC (jd ddX11_rescan 5 rfl) (by decide) ?_
    refine jr_goto 14 CC (jd ddX11_rescan 6 rfl) (by decide) ?_
    refine jr_callV (q0 := 0) (rest := []) [.int 0] CC (jd ddX11_rescan 8 rfl) (jy_X11_111 CC) (k_X11_fails_0 l t hfl m0 mb R) [0] rfl (by decide) rfl rfl rfl rfl (by decide) (Nat.le_of_ble_eq_true rfl) (by rintro v u h; rcases h with ⟨rfl, rfl⟩ <;> exact (show ([m0] : List Nat) = [m0] from rfl)) (fun _ _ h => h.elim) (fun _ _ h => h.elim) (fun v u h => ?_)
    rcases h with ⟨rfl, rfl⟩
    refine jr_norm [(m0, .inr (10, jmdl (upd R 44 0) mb)), ((mb 3), .inl (t 0, 8, .inl LN)), ((mb 2), .inl (t 0, 784, .inl CU))] [.int 0] 17 0 0 rfl rfl rfl rfl rfl ?_
    refine jr_if_eq 22 CC (jd ddX11_rescan 9 rfl) (by decide) (fun _ => ?_) (fun h => absurd h (by decide))
    obtain ⟨r, hr, rfl⟩ := jrec_nat (h28 ▸ ((jrec_iff _ _).mpr c1)) hm8
    have ntr : (nI r).toNatClampNeg = r := nI_tn (by omega)
    obtain ⟨kk, hkk, hk1, hk49⟩ := hLN r hr
    refine jr_aload_n CC (jd ddX11_rescan 12 rfl) 0 rfl ?_
    refine jr_get (v := .int (R 6)) CC (jd ddX11_rescan 13 rfl) (jf_X11_71 CC) 0 rfl rfl ?_
    refine jr_istore_n 2 [(2, .int (R 6)), (0, .ref m0), (1, .int (nI r))] CC (jd ddX11_rescan 14 rfl) rfl (by decide) rfl ?_
    refine jr_aload_n CC (jd ddX11_rescan 15 rfl) 1 rfl ?_
    refine jr_get (v := .int (R 7)) CC (jd ddX11_rescan 16 rfl) (jf_X11_121 CC) 0 rfl rfl ?_
    refine jr_istore_n 3 [(3, .int (R 7)), (2, .int (R 6)), (0, .ref m0), (1, .int (nI r))] CC (jd ddX11_rescan 17 rfl) rfl (by decide) rfl ?_
    refine jr_aload_n CC (jd ddX11_rescan 18 rfl) 2 rfl ?_
    refine jr_get (v := .int (R 8)) CC (jd ddX11_rescan 19 rfl) (jf_X11_124 CC) 0 rfl rfl ?_
    refine jr_istore [(4, .int (R 8)), (3, .int (R 7)), (2, .int (R 6)), (0, .ref m0), (1, .int (nI r))] CC (jd ddX11_rescan 20 rfl) (by decide) rfl ?_
    refine jr_pc (pc' := 38) rfl ?_
    refine jr_aload_n CC (jd ddX11_rescan 21 rfl) 3 rfl ?_
    refine jr_get (v := .int (R 9)) CC (jd ddX11_rescan 22 rfl) (jf_X11_74 CC) 0 rfl rfl ?_
    refine jr_istore [(5, .int (R 9)), (4, .int (R 8)), (3, .int (R 7)), (2, .int (R 6)), (0, .ref m0), (1, .int (nI r))] CC (jd ddX11_rescan 23 rfl) (by decide) rfl ?_
    refine jr_aload_n CC (jd ddX11_rescan 24 rfl) 4 rfl ?_
    refine jr_get (v := .int (R 10)) CC (jd ddX11_rescan 25 rfl) (jf_X11_77 CC) 0 rfl rfl ?_
    refine jr_istore [(6, .int (R 10)), (5, .int (R 9)), (4, .int (R 8)), (3, .int (R 7)), (2, .int (R 6)), (0, .ref m0), (1, .int (nI r))] CC (jd ddX11_rescan 26 rfl) (by decide) rfl ?_
    refine jr_aload_n CC (jd ddX11_rescan 27 rfl) 5 rfl ?_
    refine jr_get (v := .int (R 12)) CC (jd ddX11_rescan 28 rfl) (jf_X11_80 CC) 0 rfl rfl ?_
    refine jr_istore [(7, .int (R 12)), (6, .int (R 10)), (5, .int (R 9)), (4, .int (R 8)), (3, .int (R 7)), (2, .int (R 6)), (0, .ref m0), (1, .int (nI r))] CC (jd ddX11_rescan 29 rfl) (by decide) rfl ?_
    refine jr_aload_n CC (jd ddX11_rescan 30 rfl) 6 rfl ?_
    refine jr_pc (pc' := 57) rfl ?_
    refine jr_get (v := .int (R 13)) CC (jd ddX11_rescan 31 rfl) (jf_X11_83 CC) 0 rfl rfl ?_
    refine jr_istore [(8, .int (R 13)), (7, .int (R 12)), (6, .int (R 10)), (5, .int (R 9)), (4, .int (R 8)), (3, .int (R 7)), (2, .int (R 6)), (0, .ref m0), (1, .int (nI r))] CC (jd ddX11_rescan 32 rfl) (by decide) rfl ?_
    refine jr_aload_n CC (jd ddX11_rescan 33 rfl) 7 rfl ?_
    refine jr_get (v := .int (R 14)) CC (jd ddX11_rescan 34 rfl) (jf_X11_86 CC) 0 rfl rfl ?_
    refine jr_istore [(9, .int (R 14)), (8, .int (R 13)), (7, .int (R 12)), (6, .int (R 10)), (5, .int (R 9)), (4, .int (R 8)), (3, .int (R 7)), (2, .int (R 6)), (0, .ref m0), (1, .int (nI r))] CC (jd ddX11_rescan 35 rfl) (by decide) rfl ?_
    refine jr_aload_n CC (jd ddX11_rescan 36 rfl) 8 rfl ?_
    refine jr_get (v := .int (R 15)) CC (jd ddX11_rescan 37 rfl) (jf_X11_127 CC) 0 rfl rfl ?_
    refine jr_istore [(10, .int (R 15)), (9, .int (R 14)), (8, .int (R 13)), (7, .int (R 12)), (6, .int (R 10)), (5, .int (R 9)), (4, .int (R 8)), (3, .int (R 7)), (2, .int (R 6)), (0, .ref m0), (1, .int (nI r))] CC (jd ddX11_rescan 38 rfl) (by decide) rfl ?_
    refine jr_aload_n CC (jd ddX11_rescan 39 rfl) 9 rfl ?_
    refine jr_get (v := .int (R 16)) CC (jd ddX11_rescan 40 rfl) (jf_X11_89 CC) 0 rfl rfl ?_
    refine jr_pc (pc' := 78) rfl ?_
    refine jr_istore [(11, .int (R 16)), (10, .int (R 15)), (9, .int (R 14)), (8, .int (R 13)), (7, .int (R 12)), (6, .int (R 10)), (5, .int (R 9)), (4, .int (R 8)), (3, .int (R 7)), (2, .int (R 6)), (0, .ref m0), (1, .int (nI r))] CC (jd ddX11_rescan 41 rfl) (by decide) rfl ?_
    refine jr_aload_n CC (jd ddX11_rescan 42 rfl) 10 rfl ?_
    refine jr_callV (q0 := 0) (rest := []) [] CC (jd ddX11_rescan 43 rfl) (jy_X11_104 CC) (k_X11_begins l t hfl m0 mb (upd R 44 0)) [0] rfl (by decide) rfl rfl rfl rfl (by decide) (Nat.le_of_ble_eq_true rfl) (by rintro v u h; rcases h with ⟨rfl, rfl⟩ <;> exact (show ([m0] : List Nat) = [m0] from rfl)) (fun _ _ h => h.elim) (fun _ _ h => h.elim) (fun v u h => ?_)
    rcases h with ⟨rfl, rfl⟩
    refine jr_norm [(m0, .inr (10, jmdl (mBegins (upd R 44 0)) mb)), ((mb 3), .inl (t 0, 8, .inl LN)), ((mb 2), .inl (t 0, 784, .inl CU))] [] 84 0 0 rfl rfl rfl rfl rfl ?_
    refine jr_iconst (v := 0) CC (jd ddX11_rescan 44 rfl) (by decide) ?_
    refine jr_istore [(12, .int 0), (11, .int (R 16)), (10, .int (R 15)), (9, .int (R 14)), (8, .int (R 13)), (7, .int (R 12)), (6, .int (R 10)), (5, .int (R 9)), (4, .int (R 8)), (3, .int (R 7)), (2, .int (R 6)), (0, .ref m0), (1, .int (nI r))] CC (jd ddX11_rescan 45 rfl) (by decide) rfl ?_
    refine jr_iconst (v := 0) CC (jd ddX11_rescan 46 rfl) (by decide) ?_
    refine jr_istore [(13, .int 0), (12, .int 0), (11, .int (R 16)), (10, .int (R 15)), (9, .int (R 14)), (8, .int (R 13)), (7, .int (R 12)), (6, .int (R 10)), (5, .int (R 9)), (4, .int (R 8)), (3, .int (R 7)), (2, .int (R 6)), (0, .ref m0), (1, .int (nI r))] CC (jd ddX11_rescan 47 rfl) (by decide) rfl ?_
    have hL4 : ∀ (d9 : Nat) (i : Nat) (hi : i ≤ kk), kk - i < d9 → J p l e { frames := 2, cells := 0, slots := 0, locals := 49 } s m args below meth c D A 14 Q [(m0, .inr (10, jmdl (mscG CU r (upd R 44 0) i) mb)), ((mb 3), .inl (t 0, 8, .inl LN)), ((mb 2), .inl (t 0, 784, .inl CU))] [(0, .ref m0), (1, .int (nI r)), (2, .int (R 6)), (3, .int (R 7)), (4, .int (R 8)), (5, .int (R 9)), (6, .int (R 10)), (7, .int (R 12)), (8, .int (R 13)), (9, .int (R 14)), (10, .int (R 15)), (11, .int (R 16)), (12, .int (mscS CU r (upd R 44 0) i)), (13, .int (nI i))] 90 [] 0 0 := by
      intro d9
      induction d9 with
      | zero => intro i hi hmu; exact absurd hmu (Nat.not_lt_zero _)
      | succ d9 ih90 =>
        intro i hi hmu
        refine jr_iload CC (jd ddX11_rescan 48 rfl) 13 rfl ?_
        refine jr_aload_n CC (jd ddX11_rescan 49 rfl) 0 rfl ?_
        refine jr_get (v := .ref (mb 3)) CC (jd ddX11_rescan 50 rfl) (jf_X11_33 CC) 0 rfl rfl ?_
        refine jr_iload_n CC (jd ddX11_rescan 51 rfl) 1 rfl ?_
        refine jr_ialdN CC (jd ddX11_rescan 52 rfl) 1 r rfl rfl (by omega) (by decide) ?_
        refine jr_st [.int (nI kk), .int (nI i)] (jst1 hkk) ?_
        refine jr_icmp_ge 140 CC (jd ddX11_rescan 53 rfl) (by decide) (fun c5 => ?_) (fun c5 => ?_)
        · have n5 := jle_of (a := kk) (b := i) c5 (by omega) (by omega)
          refine jr_aload_n CC (jd ddX11_rescan 75 rfl) 0 rfl ?_
          refine jr_iload_n CC (jd ddX11_rescan 76 rfl) 2 rfl ?_
          refine jr_put CC (jd ddX11_rescan 77 rfl) (jf_X11_71 CC) 0 rfl (jb01n hB.2.1) (jb01f hB.2.1) (Nat.le_of_ble_eq_true rfl) ?_
          refine jr_ws [(m0, .inr (10, jmdl (upd (mscG CU r (upd R 44 0) i) 6 (R 6)) mb)), ((mb 3), .inl (t 0, 8, .inl LN)), ((mb 2), .inl (t 0, 784, .inl CU))] rfl ?_
          refine jr_aload_n CC (jd ddX11_rescan 78 rfl) 0 rfl ?_
          refine jr_pc (pc' := 146) rfl ?_
          refine jr_iload_n CC (jd ddX11_rescan 79 rfl) 3 rfl ?_
          refine jr_put CC (jd ddX11_rescan 80 rfl) (jf_X11_121 CC) 0 rfl rfl rfl (Nat.le_of_ble_eq_true rfl) ?_
          refine jr_ws [(m0, .inr (10, jmdl (upd (upd (mscG CU r (upd R 44 0) i) 6 (R 6)) 7 (R 7)) mb)), ((mb 3), .inl (t 0, 8, .inl LN)), ((mb 2), .inl (t 0, 784, .inl CU))] rfl ?_
          refine jr_aload_n CC (jd ddX11_rescan 81 rfl) 0 rfl ?_
          refine jr_iload CC (jd ddX11_rescan 82 rfl) 4 rfl ?_
          refine jr_put CC (jd ddX11_rescan 83 rfl) (jf_X11_124 CC) 0 rfl rfl rfl (Nat.le_of_ble_eq_true rfl) ?_
          refine jr_ws [(m0, .inr (10, jmdl (upd (upd (upd (mscG CU r (upd R 44 0) i) 6 (R 6)) 7 (R 7)) 8 (R 8)) mb)), ((mb 3), .inl (t 0, 8, .inl LN)), ((mb 2), .inl (t 0, 784, .inl CU))] rfl ?_
          refine jr_aload_n CC (jd ddX11_rescan 84 rfl) 0 rfl ?_
          refine jr_iload CC (jd ddX11_rescan 85 rfl) 5 rfl ?_
          refine jr_put CC (jd ddX11_rescan 86 rfl) (jf_X11_74 CC) 0 rfl (jb01n hB.2.2.1) (jb01f hB.2.2.1) (Nat.le_of_ble_eq_true rfl) ?_
          refine jr_ws [(m0, .inr (10, jmdl (upd (upd (upd (upd (mscG CU r (upd R 44 0) i) 6 (R 6)) 7 (R 7)) 8 (R 8)) 9 (R 9)) mb)), ((mb 3), .inl (t 0, 8, .inl LN)), ((mb 2), .inl (t 0, 784, .inl CU))] rfl ?_
          refine jr_aload_n CC (jd ddX11_rescan 87 rfl) 0 rfl ?_
          refine jr_iload CC (jd ddX11_rescan 88 rfl) 6 rfl ?_
          refine jr_pc (pc' := 165) rfl ?_
          refine jr_put CC (jd ddX11_rescan 89 rfl) (jf_X11_77 CC) 0 rfl rfl rfl (Nat.le_of_ble_eq_true rfl) ?_
          refine jr_ws [(m0, .inr (10, jmdl (upd (upd (upd (upd (upd (mscG CU r (upd R 44 0) i) 6 (R 6)) 7 (R 7)) 8 (R 8)) 9 (R 9)) 10 (R 10)) mb)), ((mb 3), .inl (t 0, 8, .inl LN)), ((mb 2), .inl (t 0, 784, .inl CU))] rfl ?_
          refine jr_aload_n CC (jd ddX11_rescan 90 rfl) 0 rfl ?_
          refine jr_iload CC (jd ddX11_rescan 91 rfl) 7 rfl ?_
          refine jr_put CC (jd ddX11_rescan 92 rfl) (jf_X11_80 CC) 0 rfl (jb01n hB.2.2.2.1) (jb01f hB.2.2.2.1) (Nat.le_of_ble_eq_true rfl) ?_
          refine jr_ws [(m0, .inr (10, jmdl (upd (upd (upd (upd (upd (upd (mscG CU r (upd R 44 0) i) 6 (R 6)) 7 (R 7)) 8 (R 8)) 9 (R 9)) 10 (R 10)) 12 (R 12)) mb)), ((mb 3), .inl (t 0, 8, .inl LN)), ((mb 2), .inl (t 0, 784, .inl CU))] rfl ?_
          refine jr_aload_n CC (jd ddX11_rescan 93 rfl) 0 rfl ?_
          refine jr_iload CC (jd ddX11_rescan 94 rfl) 8 rfl ?_
          refine jr_put CC (jd ddX11_rescan 95 rfl) (jf_X11_83 CC) 0 rfl (jb01n hB.2.2.2.2.1) (jb01f hB.2.2.2.2.1) (Nat.le_of_ble_eq_true rfl) ?_
          refine jr_ws [(m0, .inr (10, jmdl (upd (upd (upd (upd (upd (upd (upd (mscG CU r (upd R 44 0) i) 6 (R 6)) 7 (R 7)) 8 (R 8)) 9 (R 9)) 10 (R 10)) 12 (R 12)) 13 (R 13)) mb)), ((mb 3), .inl (t 0, 8, .inl LN)), ((mb 2), .inl (t 0, 784, .inl CU))] rfl ?_
          refine jr_aload_n CC (jd ddX11_rescan 96 rfl) 0 rfl ?_
          refine jr_iload CC (jd ddX11_rescan 97 rfl) 9 rfl ?_
          refine jr_put CC (jd ddX11_rescan 98 rfl) (jf_X11_86 CC) 0 rfl (jb01n hB.2.2.2.2.2.1) (jb01f hB.2.2.2.2.2.1) (Nat.le_of_ble_eq_true rfl) ?_
          refine jr_ws [(m0, .inr (10, jmdl (upd (upd (upd (upd (upd (upd (upd (upd (mscG CU r (upd R 44 0) i) 6 (R 6)) 7 (R 7)) 8 (R 8)) 9 (R 9)) 10 (R 10)) 12 (R 12)) 13 (R 13)) 14 (R 14)) mb)), ((mb 3), .inl (t 0, 8, .inl LN)), ((mb 2), .inl (t 0, 784, .inl CU))] rfl ?_
          refine jr_pc (pc' := 186) rfl ?_
          refine jr_aload_n CC (jd ddX11_rescan 99 rfl) 0 rfl ?_
          refine jr_iload CC (jd ddX11_rescan 100 rfl) 10 rfl ?_
          refine jr_put CC (jd ddX11_rescan 101 rfl) (jf_X11_127 CC) 0 rfl rfl rfl (Nat.le_of_ble_eq_true rfl) ?_
          refine jr_ws [(m0, .inr (10, jmdl (upd (upd (upd (upd (upd (upd (upd (upd (upd (mscG CU r (upd R 44 0) i) 6 (R 6)) 7 (R 7)) 8 (R 8)) 9 (R 9)) 10 (R 10)) 12 (R 12)) 13 (R 13)) 14 (R 14)) 15 (R 15)) mb)), ((mb 3), .inl (t 0, 8, .inl LN)), ((mb 2), .inl (t 0, 784, .inl CU))] rfl ?_
          refine jr_aload_n CC (jd ddX11_rescan 102 rfl) 0 rfl ?_
          refine jr_iload CC (jd ddX11_rescan 103 rfl) 11 rfl ?_
          refine jr_put CC (jd ddX11_rescan 104 rfl) (jf_X11_89 CC) 0 rfl rfl rfl (Nat.le_of_ble_eq_true rfl) ?_
          refine jr_ws [(m0, .inr (10, jmdl (upd (upd (upd (upd (upd (upd (upd (upd (upd (upd (mscG CU r (upd R 44 0) i) 6 (R 6)) 7 (R 7)) 8 (R 8)) 9 (R 9)) 10 (R 10)) 12 (R 12)) 13 (R 13)) 14 (R 14)) 15 (R 15)) 16 (R 16)) mb)), ((mb 3), .inl (t 0, 8, .inl LN)), ((mb 2), .inl (t 0, 784, .inl CU))] rfl ?_
          refine jr_iload CC (jd ddX11_rescan 105 rfl) 12 rfl ?_
          exact jr_iret CC MM (jd ddX11_rescan 106 rfl) rfl (by decide) (by decide) (Or.inl (by have e9 : i = kk := (by omega); subst e9; rw [ntr, hkk, nI_tn (show i < 2147483648 by omega)]; exact ⟨by simp [eRec, jI, jrec_iff, c1], rfl, rfl⟩))
        · have n5 := jle_not (a := kk) (b := i) c5 (by omega) (by omega)
          refine jr_iload CC (jd ddX11_rescan 54 rfl) 12 rfl ?_
          refine jr_aload_n CC (jd ddX11_rescan 55 rfl) 0 rfl ?_
          refine jr_aload_n CC (jd ddX11_rescan 56 rfl) 0 rfl ?_
          refine jr_iload_n CC (jd ddX11_rescan 57 rfl) 1 rfl ?_
          refine jr_pc (pc' := 106) rfl ?_
          refine jr_iconst (v := 0) CC (jd ddX11_rescan 58 rfl) (by decide) ?_
          refine jr_iload CC (jd ddX11_rescan 59 rfl) 13 rfl ?_
          refine jr_callV (q0 := 0) (rest := [.ref m0, .int (mscS CU r (upd R 44 0) i)]) [.int (nI r), .int 0, .int (nI i)] CC (jd ddX11_rescan 60 rfl) (jy_X11_195 CC) (k_X11_at l t hfl m0 mb (mscG CU r (upd R 44 0) i) CU r 0 i (by first | assumption | omega | decide) (by decide) (by first | assumption | omega | decide)) [0, 2] rfl (by decide) rfl rfl rfl rfl (by decide) (Nat.le_of_ble_eq_true rfl) (by rintro v u h; rcases h with ⟨rfl, rfl⟩ <;> exact (show ([m0, (mb 2)] : List Nat) = [m0, (mb 2)] from rfl)) (fun _ _ h => h.elim) (fun _ _ h => h.elim) (fun v u h => ?_)
          rcases h with ⟨rfl, rfl⟩
          refine jr_norm [(m0, .inr (10, jmdl (mscG CU r (upd R 44 0) i) mb)), ((mb 3), .inl (t 0, 8, .inl LN)), ((mb 2), .inl (t 0, 784, .inl CU))] [.int (mcol CU r 0 i), .ref m0, .int (mscS CU r (upd R 44 0) i)] 112 0 0 rfl rfl rfl rfl rfl ?_
          refine jr_aload_n CC (jd ddX11_rescan 61 rfl) 0 rfl ?_
          refine jr_iload_n CC (jd ddX11_rescan 62 rfl) 1 rfl ?_
          refine jr_iconst (v := 1) CC (jd ddX11_rescan 63 rfl) (by decide) ?_
          refine jr_iload CC (jd ddX11_rescan 64 rfl) 13 rfl ?_
          refine jr_callV (q0 := 0) (rest := [.int (mcol CU r 0 i), .ref m0, .int (mscS CU r (upd R 44 0) i)]) [.int (nI r), .int 1, .int (nI i)] CC (jd ddX11_rescan 65 rfl) (jy_X11_195 CC) (k_X11_at l t hfl m0 mb (mscG CU r (upd R 44 0) i) CU r 1 i (by first | assumption | omega | decide) (by decide) (by first | assumption | omega | decide)) [0, 2] rfl (by decide) rfl rfl rfl rfl (by decide) (Nat.le_of_ble_eq_true rfl) (by rintro v u h; rcases h with ⟨rfl, rfl⟩ <;> exact (show ([m0, (mb 2)] : List Nat) = [m0, (mb 2)] from rfl)) (fun _ _ h => h.elim) (fun _ _ h => h.elim) (fun v u h => ?_)
          rcases h with ⟨rfl, rfl⟩
          refine jr_norm [(m0, .inr (10, jmdl (mscG CU r (upd R 44 0) i) mb)), ((mb 3), .inl (t 0, 8, .inl LN)), ((mb 2), .inl (t 0, 784, .inl CU))] [.int (mcol CU r 1 i), .int (mcol CU r 0 i), .ref m0, .int (mscS CU r (upd R 44 0) i)] 120 0 0 rfl rfl rfl rfl rfl ?_
          refine jr_callV (q0 := 0) (rest := [.int (mscS CU r (upd R 44 0) i)]) [.int (mcol CU r 0 i), .int (mcol CU r 1 i)] CC (jd ddX11_rescan 66 rfl) (jy_X11_168 CC) (k_X11_looks l t hfl m0 mb (mscG CU r (upd R 44 0) i) (mcol CU r 0 i) (mcol CU r 1 i) (mscG_bool (mBool_u hB 44 0 (Or.inl (by decide))) CU r i)) [0] rfl (by decide) rfl rfl rfl rfl (by decide) (Nat.le_of_ble_eq_true rfl) (by rintro v u h; rcases h with ⟨rfl, rfl⟩ <;> exact (show ([m0] : List Nat) = [m0] from rfl)) (fun _ _ h => h.elim) (fun _ _ h => h.elim) (fun v u h => ?_)
          rcases h with ⟨rfl, rfl⟩
          refine jr_norm [(m0, .inr (10, jmdl (mG (mscG CU r (upd R 44 0) i) (mcol CU r 0 i) (mcol CU r 1 i)) mb)), ((mb 3), .inl (t 0, 8, .inl LN)), ((mb 2), .inl (t 0, 784, .inl CU))] [.int (mR (mscG CU r (upd R 44 0) i) (mcol CU r 0 i) (mcol CU r 1 i)), .int (mscS CU r (upd R 44 0) i)] 123 0 0 rfl rfl rfl rfl rfl ?_
          have hJ7 : ∀ v6 : Int32, m01 (mR (mscG CU r (upd R 44 0) i) (mcol CU r 0 i) (mcol CU r 1 i)) = v6 → J p l e { frames := 2, cells := 0, slots := 0, locals := 49 } s m args below meth c D A 14 Q [(m0, .inr (10, jmdl (mG (mscG CU r (upd R 44 0) i) (mcol CU r 0 i) (mcol CU r 1 i)) mb)), ((mb 3), .inl (t 0, 8, .inl LN)), ((mb 2), .inl (t 0, 784, .inl CU))] [(0, .ref m0), (1, .int (nI r)), (2, .int (R 6)), (3, .int (R 7)), (4, .int (R 8)), (5, .int (R 9)), (6, .int (R 10)), (7, .int (R 12)), (8, .int (R 13)), (9, .int (R 14)), (10, .int (R 15)), (11, .int (R 16)), (12, .int (mscS CU r (upd R 44 0) i)), (13, .int (nI i))] 131 [.int v6, .int (mscS CU r (upd R 44 0) i)] 0 0 := by
            intro v6 e8
            have bv6 : v6 = 0 ∨ v6 = 1 := e8 ▸ (m0101 _)
            refine jr_iadd CC (jd ddX11_rescan 71 rfl) ?_
            refine jr_istore [(12, .int ((mscS CU r (upd R 44 0) i) + v6)), (0, .ref m0), (1, .int (nI r)), (2, .int (R 6)), (3, .int (R 7)), (4, .int (R 8)), (5, .int (R 9)), (6, .int (R 10)), (7, .int (R 12)), (8, .int (R 13)), (9, .int (R 14)), (10, .int (R 15)), (11, .int (R 16)), (13, .int (nI i))] CC (jd ddX11_rescan 72 rfl) (by decide) rfl ?_
            refine jr_iinc [(13, .int (nI (i + 1))), (12, .int ((mscS CU r (upd R 44 0) i) + v6)), (0, .ref m0), (1, .int (nI r)), (2, .int (R 6)), (3, .int (R 7)), (4, .int (R 8)), (5, .int (R 9)), (6, .int (R 10)), (7, .int (R 12)), (8, .int (R 13)), (9, .int (R 14)), (10, .int (R 15)), (11, .int (R 16))] CC (jd ddX11_rescan 73 rfl) 13 rfl (nI_1 _) (by decide) rfl ?_
            refine jr_goto 90 CC (jd ddX11_rescan 74 rfl) (by decide) ?_
            refine jr_ws [(m0, .inr (10, jmdl (mscG CU r (upd R 44 0) (i + 1)) mb)), ((mb 3), .inl (t 0, 8, .inl LN)), ((mb 2), .inl (t 0, 784, .inl CU))] rfl ?_
            refine jr_norm0 [(13, .int (nI (i + 1))), (12, .int (mscS CU r (upd R 44 0) (i + 1))), (0, .ref m0), (1, .int (nI r)), (2, .int (R 6)), (3, .int (R 7)), (4, .int (R 8)), (5, .int (R 9)), (6, .int (R 10)), (7, .int (R 12)), (8, .int (R 13)), (9, .int (R 14)), (10, .int (R 15)), (11, .int (R 16))] (by rw [mscS, e8]) ?_
            refine jr_norm [(m0, .inr (10, jmdl (mscG CU r (upd R 44 0) (i + 1)) mb)), ((mb 3), .inl (t 0, 8, .inl LN)), ((mb 2), .inl (t 0, 784, .inl CU))] [] 90 0 0 rfl rfl rfl rfl rfl ?_
            refine jr_lv [2, 3, 4, 5, 6, 7, 8, 9, 10, 11, 12, 13, 1, 0] [(0, .ref m0), (1, .int (nI r)), (2, .int (R 6)), (3, .int (R 7)), (4, .int (R 8)), (5, .int (R 9)), (6, .int (R 10)), (7, .int (R 12)), (8, .int (R 13)), (9, .int (R 14)), (10, .int (R 15)), (11, .int (R 16)), (12, .int (mscS CU r (upd R 44 0) (i + 1))), (13, .int (nI (i + 1)))] rfl ?_
            exact ih90 (i + 1) (by omega) (by omega)
          refine jr_norm [(m0, .inr (10, jmdl (mG (mscG CU r (upd R 44 0) i) (mcol CU r 0 i) (mcol CU r 1 i)) mb)), ((mb 3), .inl (t 0, 8, .inl LN)), ((mb 2), .inl (t 0, 784, .inl CU))] [.int (mR (mscG CU r (upd R 44 0) i) (mcol CU r 0 i) (mcol CU r 1 i)), .int (mscS CU r (upd R 44 0) i)] 123 0 0 rfl rfl rfl rfl rfl ?_
          refine jr_if_eq 130 CC (jd ddX11_rescan 67 rfl) (by decide) (fun c9 => ?_) (fun c9 => ?_)
          · refine jr_iconst (v := 0) CC (jd ddX11_rescan 70 rfl) (by decide) ?_
            exact hJ7 _ (by first | (simp [m01, c9]; done))
          · refine jr_iconst (v := 1) CC (jd ddX11_rescan 68 rfl) (by decide) ?_
            refine jr_goto 131 CC (jd ddX11_rescan 69 rfl) (by decide) ?_
            exact hJ7 _ (by first | (simp [m01, c9]; done))
    refine jr_norm [(m0, .inr (10, jmdl (mscG CU r (upd R 44 0) 0) mb)), ((mb 3), .inl (t 0, 8, .inl LN)), ((mb 2), .inl (t 0, 784, .inl CU))] [] 90 0 0 rfl rfl rfl rfl rfl ?_
    refine jr_lv [12, 13, 11, 10, 9, 8, 7, 6, 5, 4, 3, 2, 1, 0] [(0, .ref m0), (1, .int (nI r)), (2, .int (R 6)), (3, .int (R 7)), (4, .int (R 8)), (5, .int (R 9)), (6, .int (R 10)), (7, .int (R 12)), (8, .int (R 13)), (9, .int (R 14)), (10, .int (R 15)), (11, .int (R 16)), (12, .int (mscS CU r (upd R 44 0) 0)), (13, .int (nI 0))] rfl ?_
    exact hL4 (kk - 0 + 1) 0 (Nat.zero_le _) (Nat.lt_succ_self _)
set_option maxHeartbeats 8000000 in
set_option maxRecDepth 100000 in
theorem k_X11_setMask (l : Launch) (t : Nat → ClassId) (hfl : l.stackTraces = false) (m0 : Nat) (mb : Nat → Nat) (R : Nat → Int32) (MK : Nat → Int32) (LO : Nat → Int32) (HI : Nat → Int32) (a : Int32) (b : Int32) (lo : Int32) (hi : Int32) : jKx l t yX11_setMask (Cond.code yX11_setMask cX11_setMask 7 none :: jWS) { frames := 2, cells := 0, slots := 0, locals := 42 } [.ref m0, .int a, .int b, .int lo, .int hi] [(m0, .inr (10, jmdl R mb)), ((mb 5), .inl (t 3, 49, .inl MK)), ((mb 6), .inl (t 0, 49, .inl LO)), ((mb 7), .inl (t 0, 49, .inl HI))] (fun vv uu => (((eMask a b lo hi) = 0) ∧ vv = none ∧ uu = [(m0, .inr (10, jmdl (upd R 44 0) mb)), ((mb 5), .inl (t 3, 49, .inl (jset a.toNatClampNeg (b.toNatClampNeg + 1) 1 MK))), ((mb 6), .inl (t 0, 49, .inl (jset a.toNatClampNeg (b.toNatClampNeg + 1) lo LO))), ((mb 7), .inl (t 0, 49, .inl (jset a.toNatClampNeg (b.toNatClampNeg + 1) hi HI)))]) ∨ (((eMask a b lo hi) = 1) ∧ vv = none ∧ uu = [(m0, .inr (10, jmdl (upd R 44 1) mb)), ((mb 5), .inl (t 3, 49, .inl MK)), ((mb 6), .inl (t 0, 49, .inl LO)), ((mb 7), .inl (t 0, 49, .inl HI))])) (fun _ _ => False) := by
  refine jK_of hfl (by decide +kernel) (Nat.le_of_ble_eq_true rfl) ?_
  intro p e s m args below meth c D A Q CC MM
  refine jr_norm0 [(0, .ref m0), (1, .int a), (2, .int b), (3, .int lo), (4, .int hi)] rfl ?_
  refine jr_iload_n CC (jd ddX11_setMask 0 rfl) 1 rfl ?_
  refine jr_iconst (v := 0) CC (jd ddX11_setMask 1 rfl) (by decide) ?_
  refine jr_bipush (v := 48) CC (jd ddX11_setMask 2 rfl) (by decide) ?_
  refine jr_callS (rest := []) [.int a, .int 0, .int 48] CC (jd ddX11_setMask 3 rfl) (jy_X11_67 CC) (k_X11_isIn l t hfl a 0 48) [] rfl (by decide) rfl rfl (by decide) (Nat.le_of_ble_eq_true rfl) (by rintro v u h; rcases h with ⟨rfl, rfl⟩ <;> rfl) (fun _ _ h => h.elim) (fun _ _ h => h.elim) (fun v u h => ?_)
  rcases h with ⟨rfl, rfl⟩
  refine jr_norm [(m0, .inr (10, jmdl R mb)), ((mb 5), .inl (t 3, 49, .inl MK)), ((mb 6), .inl (t 0, 49, .inl LO)), ((mb 7), .inl (t 0, 49, .inl HI))] [.int (mIn a 0 48)] 7 0 0 rfl rfl rfl rfl rfl ?_
  refine jr_if_eq 42 CC (jd ddX11_setMask 4 rfl) (by decide) (fun c1 => ?_) (fun c1 => ?_)
  · refine jr_iconst (v := 0) CC (jd ddX11_setMask 20 rfl) (by decide) ?_
    refine jr_istore [(5, .int 0), (0, .ref m0), (1, .int a), (2, .int b), (3, .int lo), (4, .int hi)] CC (jd ddX11_setMask 21 rfl) (by decide) rfl ?_
    refine jr_aload_n CC (jd ddX11_setMask 22 rfl) 1 rfl ?_
    refine jr_iload CC (jd ddX11_setMask 23 rfl) 0 rfl ?_
    refine jr_if_eq 55 CC (jd ddX11_setMask 24 rfl) (by decide) (fun _ => ?_) (fun h => absurd h (by decide))
    refine jr_iconst (v := 1) CC (jd ddX11_setMask 27 rfl) (by decide) ?_
    refine jr_callV (q0 := 0) (rest := []) [.int 1] CC (jd ddX11_setMask 28 rfl) (jy_X11_111 CC) (k_X11_fails_1 l t hfl m0 mb R) [0] rfl (by decide) rfl rfl rfl rfl (by decide) (Nat.le_of_ble_eq_true rfl) (by rintro v u h; rcases h with ⟨rfl, rfl⟩ <;> exact (show ([m0] : List Nat) = [m0] from rfl)) (fun _ _ h => h.elim) (fun _ _ h => h.elim) (fun v u h => ?_)
    rcases h with ⟨rfl, rfl⟩
    refine jr_norm [(m0, .inr (10, jmdl (upd R 44 1) mb)), ((mb 5), .inl (t 3, 49, .inl MK)), ((mb 6), .inl (t 0, 49, .inl LO)), ((mb 7), .inl (t 0, 49, .inl HI))] [.int 1] 59 0 0 rfl rfl rfl rfl rfl ?_
    refine jr_if_ne 102 CC (jd ddX11_setMask 29 rfl) (by decide) (fun _ => ?_) (fun h => absurd h (by decide))
    exact jr_vret CC MM (jd ddX11_setMask 52 rfl) rfl (by decide) (by decide) (Or.inr ⟨by simp [eMask, jI, jin_iff, c1], rfl, rfl⟩)
  · refine jr_iload_n CC (jd ddX11_setMask 5 rfl) 2 rfl ?_
    refine jr_iload_n CC (jd ddX11_setMask 6 rfl) 1 rfl ?_
    refine jr_bipush (v := 48) CC (jd ddX11_setMask 7 rfl) (by decide) ?_
    refine jr_callS (rest := []) [.int b, .int a, .int 48] CC (jd ddX11_setMask 8 rfl) (jy_X11_67 CC) (k_X11_isIn l t hfl b a 48) [] rfl (by decide) rfl rfl (by decide) (Nat.le_of_ble_eq_true rfl) (by rintro v u h; rcases h with ⟨rfl, rfl⟩ <;> rfl) (fun _ _ h => h.elim) (fun _ _ h => h.elim) (fun v u h => ?_)
    rcases h with ⟨rfl, rfl⟩
    refine jr_norm [(m0, .inr (10, jmdl R mb)), ((mb 5), .inl (t 3, 49, .inl MK)), ((mb 6), .inl (t 0, 49, .inl LO)), ((mb 7), .inl (t 0, 49, .inl HI))] [.int (mIn b a 48)] 17 0 0 rfl rfl rfl rfl rfl ?_
    refine jr_if_eq 42 CC (jd ddX11_setMask 9 rfl) (by decide) (fun c4 => ?_) (fun c4 => ?_)
    · refine jr_iconst (v := 0) CC (jd ddX11_setMask 20 rfl) (by decide) ?_
      refine jr_istore [(5, .int 0), (0, .ref m0), (1, .int a), (2, .int b), (3, .int lo), (4, .int hi)] CC (jd ddX11_setMask 21 rfl) (by decide) rfl ?_
      refine jr_aload_n CC (jd ddX11_setMask 22 rfl) 1 rfl ?_
      refine jr_iload CC (jd ddX11_setMask 23 rfl) 0 rfl ?_
      refine jr_if_eq 55 CC (jd ddX11_setMask 24 rfl) (by decide) (fun _ => ?_) (fun h => absurd h (by decide))
      refine jr_iconst (v := 1) CC (jd ddX11_setMask 27 rfl) (by decide) ?_
      refine jr_callV (q0 := 0) (rest := []) [.int 1] CC (jd ddX11_setMask 28 rfl) (jy_X11_111 CC) (k_X11_fails_1 l t hfl m0 mb R) [0] rfl (by decide) rfl rfl rfl rfl (by decide) (Nat.le_of_ble_eq_true rfl) (by rintro v u h; rcases h with ⟨rfl, rfl⟩ <;> exact (show ([m0] : List Nat) = [m0] from rfl)) (fun _ _ h => h.elim) (fun _ _ h => h.elim) (fun v u h => ?_)
      rcases h with ⟨rfl, rfl⟩
      refine jr_norm [(m0, .inr (10, jmdl (upd R 44 1) mb)), ((mb 5), .inl (t 3, 49, .inl MK)), ((mb 6), .inl (t 0, 49, .inl LO)), ((mb 7), .inl (t 0, 49, .inl HI))] [.int 1] 59 0 0 rfl rfl rfl rfl rfl ?_
      refine jr_if_ne 102 CC (jd ddX11_setMask 29 rfl) (by decide) (fun _ => ?_) (fun h => absurd h (by decide))
      exact jr_vret CC MM (jd ddX11_setMask 52 rfl) rfl (by decide) (by decide) (Or.inr ⟨by simp [eMask, jI, jin_iff, c1, c4], rfl, rfl⟩)
    · refine jr_iload_n CC (jd ddX11_setMask 10 rfl) 3 rfl ?_
      refine jr_callS (rest := []) [.int lo] CC (jd ddX11_setMask 11 rfl) (jy_X11_107 CC) (k_X11_isValue l t hfl lo) [] rfl (by decide) rfl rfl (by decide) (Nat.le_of_ble_eq_true rfl) (by rintro v u h; rcases h with ⟨rfl, rfl⟩ <;> rfl) (fun _ _ h => h.elim) (fun _ _ h => h.elim) (fun v u h => ?_)
      rcases h with ⟨rfl, rfl⟩
      refine jr_norm [(m0, .inr (10, jmdl R mb)), ((mb 5), .inl (t 3, 49, .inl MK)), ((mb 6), .inl (t 0, 49, .inl LO)), ((mb 7), .inl (t 0, 49, .inl HI))] [.int (mIn lo (-128) 127)] 24 0 0 rfl rfl rfl rfl rfl ?_
      refine jr_if_eq 42 CC (jd ddX11_setMask 12 rfl) (by decide) (fun c7 => ?_) (fun c7 => ?_)
      · refine jr_iconst (v := 0) CC (jd ddX11_setMask 20 rfl) (by decide) ?_
        refine jr_istore [(5, .int 0), (0, .ref m0), (1, .int a), (2, .int b), (3, .int lo), (4, .int hi)] CC (jd ddX11_setMask 21 rfl) (by decide) rfl ?_
        refine jr_aload_n CC (jd ddX11_setMask 22 rfl) 1 rfl ?_
        refine jr_iload CC (jd ddX11_setMask 23 rfl) 0 rfl ?_
        refine jr_if_eq 55 CC (jd ddX11_setMask 24 rfl) (by decide) (fun _ => ?_) (fun h => absurd h (by decide))
        refine jr_iconst (v := 1) CC (jd ddX11_setMask 27 rfl) (by decide) ?_
        refine jr_callV (q0 := 0) (rest := []) [.int 1] CC (jd ddX11_setMask 28 rfl) (jy_X11_111 CC) (k_X11_fails_1 l t hfl m0 mb R) [0] rfl (by decide) rfl rfl rfl rfl (by decide) (Nat.le_of_ble_eq_true rfl) (by rintro v u h; rcases h with ⟨rfl, rfl⟩ <;> exact (show ([m0] : List Nat) = [m0] from rfl)) (fun _ _ h => h.elim) (fun _ _ h => h.elim) (fun v u h => ?_)
        rcases h with ⟨rfl, rfl⟩
        refine jr_norm [(m0, .inr (10, jmdl (upd R 44 1) mb)), ((mb 5), .inl (t 3, 49, .inl MK)), ((mb 6), .inl (t 0, 49, .inl LO)), ((mb 7), .inl (t 0, 49, .inl HI))] [.int 1] 59 0 0 rfl rfl rfl rfl rfl ?_
        refine jr_if_ne 102 CC (jd ddX11_setMask 29 rfl) (by decide) (fun _ => ?_) (fun h => absurd h (by decide))
        exact jr_vret CC MM (jd ddX11_setMask 52 rfl) rfl (by decide) (by decide) (Or.inr ⟨by simp [eMask, jI, jin_iff, c1, c4, c7], rfl, rfl⟩)
      · refine jr_iload CC (jd ddX11_setMask 13 rfl) 4 rfl ?_
        refine jr_iload_n CC (jd ddX11_setMask 14 rfl) 3 rfl ?_
        refine jr_bipush (v := 127) CC (jd ddX11_setMask 15 rfl) (by decide) ?_
        refine jr_callS (rest := []) [.int hi, .int lo, .int 127] CC (jd ddX11_setMask 16 rfl) (jy_X11_67 CC) (k_X11_isIn l t hfl hi lo 127) [] rfl (by decide) rfl rfl (by decide) (Nat.le_of_ble_eq_true rfl) (by rintro v u h; rcases h with ⟨rfl, rfl⟩ <;> rfl) (fun _ _ h => h.elim) (fun _ _ h => h.elim) (fun v u h => ?_)
        rcases h with ⟨rfl, rfl⟩
        refine jr_norm [(m0, .inr (10, jmdl R mb)), ((mb 5), .inl (t 3, 49, .inl MK)), ((mb 6), .inl (t 0, 49, .inl LO)), ((mb 7), .inl (t 0, 49, .inl HI))] [.int (mIn hi lo 127)] 35 0 0 rfl rfl rfl rfl rfl ?_
        refine jr_if_eq 42 CC (jd ddX11_setMask 17 rfl) (by decide) (fun c10 => ?_) (fun c10 => ?_)
        · refine jr_iconst (v := 0) CC (jd ddX11_setMask 20 rfl) (by decide) ?_
          refine jr_istore [(5, .int 0), (0, .ref m0), (1, .int a), (2, .int b), (3, .int lo), (4, .int hi)] CC (jd ddX11_setMask 21 rfl) (by decide) rfl ?_
          refine jr_aload_n CC (jd ddX11_setMask 22 rfl) 1 rfl ?_
          refine jr_iload CC (jd ddX11_setMask 23 rfl) 0 rfl ?_
          refine jr_if_eq 55 CC (jd ddX11_setMask 24 rfl) (by decide) (fun _ => ?_) (fun h => absurd h (by decide))
          refine jr_iconst (v := 1) CC (jd ddX11_setMask 27 rfl) (by decide) ?_
          refine jr_callV (q0 := 0) (rest := []) [.int 1] CC (jd ddX11_setMask 28 rfl) (jy_X11_111 CC) (k_X11_fails_1 l t hfl m0 mb R) [0] rfl (by decide) rfl rfl rfl rfl (by decide) (Nat.le_of_ble_eq_true rfl) (by rintro v u h; rcases h with ⟨rfl, rfl⟩ <;> exact (show ([m0] : List Nat) = [m0] from rfl)) (fun _ _ h => h.elim) (fun _ _ h => h.elim) (fun v u h => ?_)
          rcases h with ⟨rfl, rfl⟩
          refine jr_norm [(m0, .inr (10, jmdl (upd R 44 1) mb)), ((mb 5), .inl (t 3, 49, .inl MK)), ((mb 6), .inl (t 0, 49, .inl LO)), ((mb 7), .inl (t 0, 49, .inl HI))] [.int 1] 59 0 0 rfl rfl rfl rfl rfl ?_
          refine jr_if_ne 102 CC (jd ddX11_setMask 29 rfl) (by decide) (fun _ => ?_) (fun h => absurd h (by decide))
          exact jr_vret CC MM (jd ddX11_setMask 52 rfl) rfl (by decide) (by decide) (Or.inr ⟨by simp [eMask, jI, jin_iff, c1, c4, c7, c10], rfl, rfl⟩)
        · refine jr_iconst (v := 1) CC (jd ddX11_setMask 18 rfl) (by decide) ?_
          refine jr_goto 43 CC (jd ddX11_setMask 19 rfl) (by decide) ?_
          refine jr_istore [(5, .int 1), (0, .ref m0), (1, .int a), (2, .int b), (3, .int lo), (4, .int hi)] CC (jd ddX11_setMask 21 rfl) (by decide) rfl ?_
          refine jr_aload_n CC (jd ddX11_setMask 22 rfl) 1 rfl ?_
          refine jr_iload CC (jd ddX11_setMask 23 rfl) 0 rfl ?_
          refine jr_if_eq 55 CC (jd ddX11_setMask 24 rfl) (by decide) (fun h => absurd h (by decide)) (fun _ => ?_)
          refine jr_iconst (v := 0) CC (jd ddX11_setMask 25 rfl) (by decide) ?_
          refine jr_goto 56 CC (jd ddX11_setMask 26 rfl) (by decide) ?_
          refine jr_callV (q0 := 0) (rest := []) [.int 0] CC (jd ddX11_setMask 28 rfl) (jy_X11_111 CC) (k_X11_fails_0 l t hfl m0 mb R) [0] rfl (by decide) rfl rfl rfl rfl (by decide) (Nat.le_of_ble_eq_true rfl) (by rintro v u h; rcases h with ⟨rfl, rfl⟩ <;> exact (show ([m0] : List Nat) = [m0] from rfl)) (fun _ _ h => h.elim) (fun _ _ h => h.elim) (fun v u h => ?_)
          rcases h with ⟨rfl, rfl⟩
          refine jr_norm [(m0, .inr (10, jmdl (upd R 44 0) mb)), ((mb 5), .inl (t 3, 49, .inl MK)), ((mb 6), .inl (t 0, 49, .inl LO)), ((mb 7), .inl (t 0, 49, .inl HI))] [.int 0] 59 0 0 rfl rfl rfl rfl rfl ?_
          refine jr_if_ne 102 CC (jd ddX11_setMask 29 rfl) (by decide) (fun h => absurd h (by decide)) (fun _ => ?_)
          have hj1 := (jin_iff _ _ _).mpr c1
          have hj2 := (jin_iff _ _ _).mpr c4
          obtain ⟨a1, ha1, rfl⟩ := jin_nat 48 hj1 (by decide) rfl
          obtain ⟨b1, hb1, rfl⟩ := jin_nat 48 hj2 ⟨by rw [nI_tn (by omega)], by rw [nI_tn (by omega)]; omega⟩ rfl
          have hab1 := jlt_not hj2.1 (by omega) (by omega)
          refine jr_ws [(m0, .inr (10, jmdl (upd R 44 0) mb)), ((mb 5), .inl (t 3, 49, .inl (jset a1 a1 1 MK))), ((mb 6), .inl (t 0, 49, .inl (jset a1 a1 lo LO))), ((mb 7), .inl (t 0, 49, .inl (jset a1 a1 hi HI)))] (by rw [jset_0, jset_0, jset_0]) ?_
          refine jr_iload_n CC (jd ddX11_setMask 30 rfl) 2 rfl ?_
          refine jr_istore [(6, .int (nI a1)), (5, .int 1), (0, .ref m0), (1, .int (nI a1)), (2, .int (nI b1)), (3, .int lo), (4, .int hi)] CC (jd ddX11_setMask 31 rfl) (by decide) rfl ?_
          have hL15 : ∀ (d9 : Nat) (i : Nat) (ha9 : a1 ≤ i) (hi9 : i ≤ b1 + 1), b1 + 1 - i < d9 → J p l e { frames := 2, cells := 0, slots := 0, locals := 42 } s m args below meth c D A 7 Q [(m0, .inr (10, jmdl (upd R 44 0) mb)), ((mb 5), .inl (t 3, 49, .inl (jset a1 i 1 MK))), ((mb 6), .inl (t 0, 49, .inl (jset a1 i lo LO))), ((mb 7), .inl (t 0, 49, .inl (jset a1 i hi HI)))] [(0, .ref m0), (1, .int (nI a1)), (2, .int (nI b1)), (3, .int lo), (4, .int hi), (6, .int (nI i))] 65 [] 0 0 := by
            intro d9
            induction d9 with
            | zero => intro i ha9 hi9 hmu; exact absurd hmu (Nat.not_lt_zero _)
            | succ d9 ih65 =>
              intro i ha9 hi9 hmu
              refine jr_iload CC (jd ddX11_setMask 32 rfl) 5 rfl ?_
              refine jr_iload_n CC (jd ddX11_setMask 33 rfl) 2 rfl ?_
              refine jr_icmp_gt 102 CC (jd ddX11_setMask 34 rfl) (by decide) (fun c16 => ?_) (fun c16 => ?_)
              · have n16 := jlt_of (a := b1) (b := i) c16 (by omega) (by omega)
                exact jr_vret CC MM (jd ddX11_setMask 52 rfl) rfl (by decide) (by decide) (Or.inl (by have e9 : i = b1 + 1 := (by omega); subst e9; rw [nI_tn (by omega), nI_tn (by omega)]; exact ⟨by simp [eMask, jI, jin_iff, c1, c4, c7, c10], rfl, rfl⟩))
              · have n16 := jlt_not (a := b1) (b := i) c16 (by omega) (by omega)
                refine jr_aload_n CC (jd ddX11_setMask 35 rfl) 0 rfl ?_
                refine jr_get (v := .ref (mb 5)) CC (jd ddX11_setMask 36 rfl) (jf_X11_39 CC) 0 rfl rfl ?_
                refine jr_iload CC (jd ddX11_setMask 37 rfl) 5 rfl ?_
                refine jr_iconst (v := 1) CC (jd ddX11_setMask 38 rfl) (by decide) ?_
                refine jr_zastN CC (jd ddX11_setMask 39 rfl) 1 i rfl rfl (by omega) (by decide) rfl ?_
                refine jr_aload_n CC (jd ddX11_setMask 40 rfl) 0 rfl ?_
                refine jr_get (v := .ref (mb 6)) CC (jd ddX11_setMask 41 rfl) (jf_X11_43 CC) 0 rfl rfl ?_
                refine jr_pc (pc' := 83) rfl ?_
                refine jr_iload CC (jd ddX11_setMask 42 rfl) 5 rfl ?_
                refine jr_iload_n CC (jd ddX11_setMask 43 rfl) 3 rfl ?_
                refine jr_iastN CC (jd ddX11_setMask 44 rfl) 2 i rfl rfl (by omega) (by decide) ?_
                refine jr_aload_n CC (jd ddX11_setMask 45 rfl) 0 rfl ?_
                refine jr_get (v := .ref (mb 7)) CC (jd ddX11_setMask 46 rfl) (jf_X11_46 CC) 0 rfl rfl ?_
                refine jr_iload CC (jd ddX11_setMask 47 rfl) 5 rfl ?_
                refine jr_iload CC (jd ddX11_setMask 48 rfl) 4 rfl ?_
                refine jr_iastN CC (jd ddX11_setMask 49 rfl) 3 i rfl rfl (by omega) (by decide) ?_
                refine jr_iinc [(6, .int (nI (i + 1))), (0, .ref m0), (1, .int (nI a1)), (2, .int (nI b1)), (3, .int lo), (4, .int hi)] CC (jd ddX11_setMask 50 rfl) 5 rfl (nI_1 _) (by decide) rfl ?_
                refine jr_goto 65 CC (jd ddX11_setMask 51 rfl) (by decide) ?_
                refine jr_ws [(m0, .inr (10, jmdl (upd R 44 0) mb)), ((mb 5), .inl (t 3, 49, .inl (jset a1 (i + 1) 1 MK))), ((mb 6), .inl (t 0, 49, .inl (jset a1 (i + 1) lo LO))), ((mb 7), .inl (t 0, 49, .inl (jset a1 (i + 1) hi HI)))] (by rw [← jset_s ha9, ← jset_s ha9, ← jset_s ha9] <;> rfl) ?_
                refine jr_norm [(m0, .inr (10, jmdl (upd R 44 0) mb)), ((mb 5), .inl (t 3, 49, .inl (jset a1 (i + 1) 1 MK))), ((mb 6), .inl (t 0, 49, .inl (jset a1 (i + 1) lo LO))), ((mb 7), .inl (t 0, 49, .inl (jset a1 (i + 1) hi HI)))] [] 65 0 0 rfl rfl rfl rfl rfl ?_
                refine jr_lv [1, 2, 3, 4, 5, 0] [(0, .ref m0), (1, .int (nI a1)), (2, .int (nI b1)), (3, .int lo), (4, .int hi), (6, .int (nI (i + 1)))] rfl ?_
                exact ih65 (i + 1) (by omega) (by omega) (by omega)
          refine jr_norm [(m0, .inr (10, jmdl (upd R 44 0) mb)), ((mb 5), .inl (t 3, 49, .inl (jset a1 a1 1 MK))), ((mb 6), .inl (t 0, 49, .inl (jset a1 a1 lo LO))), ((mb 7), .inl (t 0, 49, .inl (jset a1 a1 hi HI)))] [] 65 0 0 rfl rfl rfl rfl rfl ?_
          refine jr_lv [2, 3, 4, 5, 6, 0] [(0, .ref m0), (1, .int (nI a1)), (2, .int (nI b1)), (3, .int lo), (4, .int hi), (6, .int (nI a1))] rfl ?_
          exact hL15 (b1 + 1 - a1 + 1) a1 (Nat.le_refl _) (by omega) (Nat.lt_succ_self _)
set_option maxHeartbeats 8000000 in
set_option maxRecDepth 100000 in
theorem k_X11_clearMask (l : Launch) (t : Nat → ClassId) (hfl : l.stackTraces = false) (m0 : Nat) (mb : Nat → Nat) (R : Nat → Int32) (MK : Nat → Int32) : jKx l t yX11_clearMask (Cond.code yX11_clearMask cX11_clearMask 2 none :: jWS) { frames := 0, cells := 0, slots := 0, locals := 0 } [.ref m0] [(m0, .inr (10, jmdl R mb)), ((mb 5), .inl (t 3, 49, .inl MK))] (fun vv uu => (vv = none ∧ uu = [(m0, .inr (10, jmdl (upd R 44 0) mb)), ((mb 5), .inl (t 3, 49, .inl (jset 0 49 0 MK)))])) (fun _ _ => False) := by
  refine jK_of hfl (by decide +kernel) (Nat.le_of_ble_eq_true rfl) ?_
  intro p e s m args below meth c D A Q CC MM
  refine jr_norm0 [(0, .ref m0)] rfl ?_
  refine jr_aload_n CC (jd ddX11_clearMask 0 rfl) 0 rfl ?_
  refine jr_iconst (v := 0) CC (jd ddX11_clearMask 1 rfl) (by decide) ?_
  refine jr_put CC (jd ddX11_clearMask 2 rfl) (jf_X11_64 CC) 0 rfl rfl rfl (Nat.le_of_ble_eq_true rfl) ?_
  refine jr_ws [(m0, .inr (10, jmdl (upd R 44 0) mb)), ((mb 5), .inl (t 3, 49, .inl MK))] rfl ?_
  refine jr_ws [(m0, .inr (10, jmdl (upd R 44 0) mb)), ((mb 5), .inl (t 3, 49, .inl (jset 0 0 0 MK)))] (by rw [jset_0] <;> rfl) ?_
  refine jr_iconst (v := 0) CC (jd ddX11_clearMask 3 rfl) (by decide) ?_
  refine jr_istore_n 1 [(1, .int 0), (0, .ref m0)] CC (jd ddX11_clearMask 4 rfl) rfl (by decide) rfl ?_
  have hL1 : ∀ (d9 : Nat) (i : Nat) (hi9 : i ≤ 49), 49 - i < d9 → J p l e { frames := 0, cells := 0, slots := 0, locals := 0 } s m args below meth c D A 2 Q [(m0, .inr (10, jmdl (upd R 44 0) mb)), ((mb 5), .inl (t 3, 49, .inl (jset 0 i 0 MK)))] [(0, .ref m0), (1, .int (nI i))] 7 [] 0 0 := by
    intro d9
    induction d9 with
    | zero => intro i hi9 hmu; exact absurd hmu (Nat.not_lt_zero _)
    | succ d9 ih7 =>
      intro i hi9 hmu
      refine jr_iload_n CC (jd ddX11_clearMask 5 rfl) 1 rfl ?_
      refine jr_bipush (v := 49) CC (jd ddX11_clearMask 6 rfl) (by decide) ?_
      refine jr_icmp_ge 26 CC (jd ddX11_clearMask 7 rfl) (by decide) (fun c2 => ?_) (fun c2 => ?_)
      · have n2 := jle_of (a := 49) (b := i) c2 (by omega) (by omega)
        exact jr_vret CC MM (jd ddX11_clearMask 15 rfl) rfl (by decide) (by decide) (by have e9 : i = 49 := (by omega); subst e9; exact ⟨rfl, rfl⟩)
      · have n2 := jle_not (a := 49) (b := i) c2 (by omega) (by omega)
        refine jr_aload_n CC (jd ddX11_clearMask 8 rfl) 0 rfl ?_
        refine jr_get (v := .ref (mb 5)) CC (jd ddX11_clearMask 9 rfl) (jf_X11_39 CC) 0 rfl rfl ?_
        refine jr_iload_n CC (jd ddX11_clearMask 10 rfl) 1 rfl ?_
        refine jr_iconst (v := 0) CC (jd ddX11_clearMask 11 rfl) (by decide) ?_
        refine jr_zastN CC (jd ddX11_clearMask 12 rfl) 1 i rfl rfl (by omega) (by decide) rfl ?_
        refine jr_iinc [(1, .int (nI (i + 1))), (0, .ref m0)] CC (jd ddX11_clearMask 13 rfl) 1 rfl (nI_1 _) (by decide) rfl ?_
        refine jr_goto 7 CC (jd ddX11_clearMask 14 rfl) (by decide) ?_
        refine jr_ws [(m0, .inr (10, jmdl (upd R 44 0) mb)), ((mb 5), .inl (t 3, 49, .inl (jset 0 (i + 1) 0 MK)))] (by rw [← jset_s (Nat.zero_le _)] <;> rfl) ?_
        refine jr_norm [(m0, .inr (10, jmdl (upd R 44 0) mb)), ((mb 5), .inl (t 3, 49, .inl (jset 0 (i + 1) 0 MK)))] [] 7 0 0 rfl rfl rfl rfl rfl ?_
        refine jr_lv [1, 0] [(0, .ref m0), (1, .int (nI (i + 1)))] rfl ?_
        exact ih7 (i + 1) (by omega) (by omega)
  refine jr_norm [(m0, .inr (10, jmdl (upd R 44 0) mb)), ((mb 5), .inl (t 3, 49, .inl (jset 0 0 0 MK)))] [] 7 0 0 rfl rfl rfl rfl rfl ?_
  refine jr_lv [1, 0] [(0, .ref m0), (1, .int (nI 0))] rfl ?_
  exact hL1 (49 - 0 + 1) 0 (Nat.zero_le _) (Nat.lt_succ_self _)
