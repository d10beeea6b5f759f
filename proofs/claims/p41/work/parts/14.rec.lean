theorem upK_eta {K : Nat → JCap} {r : Nat} : upK K r ((K r).1, (K r).2.1, (K r).2.2.1, (K r).2.2.2.1, (K r).2.2.2.2) = K := upK_self
def recOK (K : Nat → JCap) (m : Nat) : Prop := ∀ i, i < m → ∃ k, (K i).2.2.1 = nI k ∧ k ≤ 49
theorem jrec_nat {x : Int32} {m : Nat} (h : jrec (nI m) x) (hm : m ≤ 8) : ∃ r : Nat, r < m ∧ x = nI r := by
  obtain ⟨j, hj, rfl⟩ := nI_of h.1
  exact ⟨j, (nI_ltI (by omega) (by omega)).mp h.2, rfl⟩
theorem jpos_int {x : Int32} {k : Nat} (h : jpos (nI k) x.toInt64) (hk : k ≤ 49) : ∃ j : Nat, j < k ∧ x = nI j := by
  have h1 : ¬ x.toInt64 < 0 := fun q => h.1 ((lg_cmp_lt _ _).mpr q)
  have h2 : x.toInt64 < (nI k).toInt64 := (lg_cmp_lt _ _).mp h.2
  have h3 : ¬ x < 0 := by
    intro q
    apply h1
    rw [Int64.lt_iff_toInt_lt, Int32.toInt_toInt64]
    exact Int32.lt_iff_toInt_lt.mp q
  obtain ⟨j, hj, rfl⟩ := nI_of h3
  rw [nI_l (by omega), nI_l (by omega)] at h2
  exact ⟨j, (lN_lt (by omega) (by omega)).mp h2, rfl⟩
theorem nI_T {n : Nat} (h : n < 2147483648) : (nI n).toInt = (n : Int) := by rw [← Int32.toInt_toInt64, nI_l h, lN_toInt h]
theorem jpos_grp {g : Int32} {s k : Nat} (h : jpos (nI k) ((nI s).toInt64 * g.toInt64)) (hs : 1 ≤ s) (hs2 : s ≤ 16) (hk : k ≤ 49) : ∃ j : Nat, s * j < k ∧ g = nI j := by
  have h1 : ¬ (nI s).toInt64 * g.toInt64 < 0 := fun q => h.1 ((lg_cmp_lt _ _).mpr q)
  have h2 : (nI s).toInt64 * g.toInt64 < (nI k).toInt64 := (lg_cmp_lt _ _).mp h.2
  have hg := Int32.minValue_le_toInt g
  have hg2 := Int32.toInt_lt g
  have e : ((nI s).toInt64 * g.toInt64).toInt = (s : Int) * g.toInt := by
    rw [Int64.toInt_mul, Int32.toInt_toInt64, Int32.toInt_toInt64, nI_T (n := s) (by omega)]
    have : s = 1 ∨ s = 2 ∨ s = 3 ∨ s = 4 ∨ s = 5 ∨ s = 6 ∨ s = 7 ∨ s = 8 ∨ s = 9 ∨ s = 10 ∨ s = 11 ∨ s = 12 ∨ s = 13 ∨ s = 14 ∨ s = 15 ∨ s = 16 := by omega
    have hm : Int32.minValue.toInt = -2147483648 := by decide
    rw [hm] at hg
    apply Int.bmod_eq_of_le <;> rcases this with rfl | rfl | rfl | rfl | rfl | rfl | rfl | rfl | rfl | rfl | rfl | rfl | rfl | rfl | rfl | rfl <;> omega
  have h3 : ¬ g < 0 := by
    intro q
    apply h1
    rw [Int64.lt_iff_toInt_lt, e]
    have q2 : g.toInt < 0 := Int32.lt_iff_toInt_lt.mp q
    exact Int.mul_neg_of_pos_of_neg (by omega) q2
  obtain ⟨j, hj, rfl⟩ := nI_of h3
  have h4 := Int64.lt_iff_toInt_lt.mp h2
  rw [e, nI_l (by omega), lN_toInt (by omega), nI_T hj] at h4
  exact ⟨j, by exact_mod_cast h4, rfl⟩
def jsel (ch a b : Int32) : Int32 := if ch = 0 then a else b
def jat (kr : JCap) (ch : Int32) (j : Nat) : Int32 := jsel ch (kr.2.2.2.1 j) (kr.2.2.2.2 j)
/-- the least of acc and of n values from i on -/
def jlo (f : Nat → Int32) : Nat → Nat → Int32 → Int32
  | 0, _, acc => acc
  | d + 1, i, acc => jlo f d (i + 1) (jmin acc (f i))
def jhi (f : Nat → Int32) : Nat → Nat → Int32 → Int32
  | 0, _, acc => acc
  | d + 1, i, acc => jhi f d (i + 1) (jmax acc (f i))
def jsum (f : Nat → Int32) : Nat → Nat → Int32 → Int32
  | 0, _, acc => acc
  | d + 1, i, acc => jsum f d (i + 1) (acc + f i)
theorem jmin_nI {a b : Nat} (ha : a < 2147483648) (hb : b < 2147483648) : jmin (nI a) (nI b) = nI (min a b) := by
  unfold jmin
  by_cases h : b < a
  · rw [if_pos ((nI_ltI (by omega) (by omega)).mpr h), Nat.min_eq_right (by omega)]
  · rw [if_neg (fun q => h ((nI_ltI (by omega) (by omega)).mp q)), Nat.min_eq_left (by omega)]
theorem jmax_nI {a b : Nat} (ha : a < 2147483648) (hb : b < 2147483648) : jmax (nI a) (nI b) = nI (max a b) := by
  unfold jmax
  by_cases h : a < b
  · rw [if_pos ((nI_ltI (by omega) (by omega)).mpr h), Nat.max_eq_right (by omega)]
  · rw [if_neg (fun q => h ((nI_ltI (by omega) (by omega)).mp q)), Nat.max_eq_left (by omega)]
noncomputable def eVal (n x tk pos ch : Int32) : Int32 := jI (jrec n x) (jI (jpos tk pos.toInt64) (jI (jin ch 0 1) 0 2) 1) 1
noncomputable def eGrp (n x tk ch sz g : Int32) : Int32 := jI (jin ch 0 1 ∧ jin sz 1 16) (jI (jrec n x) (jI (jpos tk (sz.toInt64 * g.toInt64)) 0 2) 2) 1
def grpN (tk sz g : Int32) : Nat := min (sz.toNatClampNeg * g.toNatClampNeg + sz.toNatClampNeg) tk.toNatClampNeg - sz.toNatClampNeg * g.toNatClampNeg
def cLow (kr : JCap) (ch sz g : Int32) : Int32 := jlo (jat kr ch) (grpN kr.2.2.1 sz g) (sz.toNatClampNeg * g.toNatClampNeg) (jat kr ch (sz.toNatClampNeg * g.toNatClampNeg))
def cHigh (kr : JCap) (ch sz g : Int32) : Int32 := jhi (jat kr ch) (grpN kr.2.2.1 sz g) (sz.toNatClampNeg * g.toNatClampNeg) (jat kr ch (sz.toNatClampNeg * g.toNatClampNeg))
def cMean (kr : JCap) (ch sz g : Int32) : Int32 := jfdiv (jsum (jat kr ch) (grpN kr.2.2.1 sz g) (sz.toNatClampNeg * g.toNatClampNeg) 0) (nI (max 1 (grpN kr.2.2.1 sz g)))
set_option maxHeartbeats 8000000 in
set_option maxRecDepth 100000 in
theorem k_X0_at_u (l : Launch) (t : Nat → ClassId) (hfl : l.stackTraces = false) (h0 : Nat) (h1 : Nat) (h2 : Nat) (h3 : Nat) (tr : Int32) (wa : Int32) (tk : Int32) (f0 : Nat → Int32) (f1 : Nat → Int32) (ch : Int32) (j : Nat) (hj : j < 49) : jKx l t yX0_at (Cond.code yX0_at cX0_at 3 (some .int) :: jWS) { frames := 0, cells := 0, slots := 0, locals := 0 } [.ref h0, .int ch, .int (nI j)] [(h0, .inr (0, [.ref h1, .int tr, .int wa, .int tk])), (h1, .inl (t 1, 2, .inr (.inr (.inr (.inr (jr2 h2 h3)))))), (h2, .inl (t 0, 49, .inl f0)), (h3, .inl (t 0, 49, .inl f1))] (fun vv uu => (vv = some (.int (jsel ch (f0 j) (f1 j))) ∧ uu = [(h0, .inr (0, [.ref h1, .int tr, .int wa, .int tk])), (h1, .inl (t 1, 2, .inr (.inr (.inr (.inr (jr2 h2 h3)))))), (h2, .inl (t 0, 49, .inl f0)), (h3, .inl (t 0, 49, .inl f1))])) (fun _ _ => False) := by
  refine jK_of hfl (by decide +kernel) (Nat.le_of_ble_eq_true rfl) ?_
  intro p e s m args below meth c D A Q CC MM
  refine jr_norm0 [(0, .ref h0), (1, .int ch), (2, .int (nI j))] rfl ?_
  refine jr_aload_n CC (jd ddX0_at 0 rfl) 0 rfl ?_
  refine jr_get (v := .ref h1) CC (jd ddX0_at 1 rfl) (jf_X0_11 CC) 0 rfl rfl ?_
  refine jr_iload_n CC (jd ddX0_at 2 rfl) 1 rfl ?_
  refine jr_if_ne 12 CC (jd ddX0_at 3 rfl) (by decide) (fun c1 => ?_) (fun c1 => ?_)
  · refine jr_iconst (v := 1) CC (jd ddX0_at 6 rfl) (by decide) ?_
    refine jr_alda (v := .ref h3) CC (jd ddX0_at 7 rfl) 1 1 rfl (by decide) (by decide) (by decide) rfl ?_
    refine jr_iload_n CC (jd ddX0_at 8 rfl) 2 rfl ?_
    refine jr_ialdN CC (jd ddX0_at 9 rfl) 3 j rfl rfl (by omega) (by decide) ?_
    exact jr_iret CC MM (jd ddX0_at 10 rfl) rfl (by decide) (by decide) ⟨by simp [jsel, c1], rfl⟩
  · refine jr_iconst (v := 0) CC (jd ddX0_at 4 rfl) (by decide) ?_
    refine jr_goto 13 CC (jd ddX0_at 5 rfl) (by decide) ?_
    refine jr_alda (v := .ref h2) CC (jd ddX0_at 7 rfl) 1 0 rfl (by decide) (by decide) (by decide) rfl ?_
    refine jr_iload_n CC (jd ddX0_at 8 rfl) 2 rfl ?_
    refine jr_ialdN CC (jd ddX0_at 9 rfl) 2 j rfl rfl (by omega) (by decide) ?_
    exact jr_iret CC MM (jd ddX0_at 10 rfl) rfl (by decide) (by decide) ⟨by simp [jsel, c1], rfl⟩
set_option maxHeartbeats 8000000 in
set_option maxRecDepth 100000 in
theorem k_X10_trigger (l : Launch) (t : Nat → ClassId) (hfl : l.stackTraces = false) (h0 : Nat) (x1 : Nat) (x2 : Nat) (x3 : Nat) (x4 : Nat) (x5 : Nat) (x6 : Nat) (fi : Int32) (M : Nat → Int32) (ca : Nat) (cg : Option Nat) (ad : Nat → Nat) (K : Nat → JCap) (m8 : Nat) (x : Int32) (hM1 : M 1 = nI m8) (hm8 : m8 ≤ 8) : jKx l t yX10_trigger (Cond.code yX10_trigger cX10_trigger 2 (some .int) :: jWS) { frames := 7, cells := 1, slots := 6, locals := 103 } [.ref h0, .int x] ([(h0, .inr (9, [.ref x1, .ref x2, .ref x3, .ref x4, .ref x5, .ref x6, .int fi])), (x2, .inr (5, jmem M ca cg)), (ca, .inl (t 2, 8, .inr (.inr (.inr (.inr (jcaps ad))))))] ++ jpool t ad K) (fun vv uu => (((eRec (M 1) x) = 0) ∧ vv = some (.int ((K x.toNatClampNeg).1)) ∧ uu = ([(h0, .inr (9, [.ref x1, .ref x2, .ref x3, .ref x4, .ref x5, .ref x6, .int fi])), (x2, .inr (5, jmem M ca cg)), (ca, .inl (t 2, 8, .inr (.inr (.inr (.inr (jcaps ad))))))] ++ jpool t ad K))) (fun EE uu => (((eRec (M 1) x) = 1) ∧ EE = "java/lang/IndexOutOfBoundsException" ∧ uu = ([(h0, .inr (9, [.ref x1, .ref x2, .ref x3, .ref x4, .ref x5, .ref x6, .int fi])), (x2, .inr (5, jmem M ca cg)), (ca, .inl (t 2, 8, .inr (.inr (.inr (.inr (jcaps ad))))))] ++ jpool t ad K))) := by
  refine jK_of hfl (by decide +kernel) (Nat.le_of_ble_eq_true rfl) ?_
  intro p e s m args below meth c D A Q CC MM
  refine jr_norm0 [(0, .ref h0), (1, .int x)] rfl ?_
  refine jr_aload_n CC (jd ddX10_trigger 0 rfl) 0 rfl ?_
  refine jr_iload_n CC (jd ddX10_trigger 1 rfl) 1 rfl ?_
  refine jr_callV (q0 := 0) (rest := []) [.int x] CC (jd ddX10_trigger 2 rfl) (jy_X10_139 CC) (k_X10_checkRecord l t hfl h0 x1 x2 x3 x4 x5 x6 fi M ca cg x) [0, 1] rfl (by decide) rfl rfl rfl rfl (by decide) (Nat.le_of_ble_eq_true rfl) (by rintro v u h; rcases h with ⟨h0, rfl, rfl⟩ <;> rfl) (by rintro v u h; rcases h with ⟨h0, rfl, rfl⟩ <;> rfl) (fun E u hx => ?_) (fun v u h => ?_)
  · rcases hx with ⟨c1, rfl, rfl⟩
    exact jr_out CC MM (by decide) (by decide) ⟨by simp [eRec, jI, c1], rfl, rfl⟩
  · rcases h with ⟨c2, rfl, rfl⟩
    refine jr_ws (jput ([(h0, .inr (9, [.ref x1, .ref x2, .ref x3, .ref x4, .ref x5, .ref x6, .int fi])), (x2, .inr (5, jmem M ca cg)), (ca, .inl (t 2, 8, .inr (.inr (.inr (.inr (jcaps ad))))))] ++ jpool t ad K) [0, 1] [(h0, .inr (9, [.ref x1, .ref x2, .ref x3, .ref x4, .ref x5, .ref x6, .int fi])), (x2, .inr (5, jmem M ca cg))]) (jdrop_nil (by rfl)) ?_
    refine jr_norm ([(h0, .inr (9, [.ref x1, .ref x2, .ref x3, .ref x4, .ref x5, .ref x6, .int fi])), (x2, .inr (5, jmem M ca cg)), (ca, .inl (t 2, 8, .inr (.inr (.inr (.inr (jcaps ad))))))] ++ jpool t ad K) [] 5 1 6 rfl rfl rfl rfl rfl ?_
    obtain ⟨r, hr, rfl⟩ := jrec_nat (hM1 ▸ c2) hm8
    have ntr : (nI r).toNatClampNeg = r := nI_tn (by omega)
    refine jr_aload_n CC (jd ddX10_trigger 3 rfl) 0 rfl ?_
    refine jr_get (v := .ref x2) CC (jd ddX10_trigger 4 rfl) (jf_X10_19 CC) 0 rfl rfl ?_
    refine jr_get (v := .ref ca) CC (jd ddX10_trigger 5 rfl) (jf_X10_142 CC) 1 rfl rfl ?_
    refine jr_iload_n CC (jd ddX10_trigger 6 rfl) 1 rfl ?_
    refine jr_aldq (v := .ref (ad (4 * r))) CC (jd ddX10_trigger 7 rfl) 2 r rfl rfl (by omega) (by decide) rfl ?_
    refine jr_focus [(h0, .inr (9, [.ref x1, .ref x2, .ref x3, .ref x4, .ref x5, .ref x6, .int fi])), (x2, .inr (5, jmem M ca cg)), (ca, .inl (t 2, 8, .inr (.inr (.inr (.inr (jcaps ad))))))] r (by omega) ?_
    refine jr_ws ([(h0, .inr (9, [.ref x1, .ref x2, .ref x3, .ref x4, .ref x5, .ref x6, .int fi])), (x2, .inr (5, jmem M ca cg)), (ca, .inl (t 2, 8, .inr (.inr (.inr (.inr (jcaps ad)))))), ((ad (4 * r)), .inr (0, [.ref (ad (4 * r + 1)), .int ((K r).1), .int ((K r).2.1), .int ((K r).2.2.1)])), ((ad (4 * r + 1)), .inl (t 1, 2, .inr (.inr (.inr (.inr (jr2 (ad (4 * r + 2)) (ad (4 * r + 3)))))))), ((ad (4 * r + 2)), .inl (t 0, 49, .inl ((K r).2.2.2.1))), ((ad (4 * r + 3)), .inl (t 0, 49, .inl ((K r).2.2.2.2)))] ++ jpoolx t ad K r) rfl ?_
    refine jr_get (v := .int ((K r).1)) CC (jd ddX10_trigger 8 rfl) (jf_X10_146 CC) 3 rfl rfl ?_
    refine jr_ws ([(h0, .inr (9, [.ref x1, .ref x2, .ref x3, .ref x4, .ref x5, .ref x6, .int fi])), (x2, .inr (5, jmem M ca cg)), (ca, .inl (t 2, 8, .inr (.inr (.inr (.inr (jcaps ad))))))] ++ (jcapw t ad r ((K r).1, (K r).2.1, (K r).2.2.1, (K r).2.2.2.1, (K r).2.2.2.2) ++ jpoolx t ad K r)) rfl ?_
    refine jr_unfocus [(h0, .inr (9, [.ref x1, .ref x2, .ref x3, .ref x4, .ref x5, .ref x6, .int fi])), (x2, .inr (5, jmem M ca cg)), (ca, .inl (t 2, 8, .inr (.inr (.inr (.inr (jcaps ad))))))] r (by omega) ?_
    refine jr_ws ([(h0, .inr (9, [.ref x1, .ref x2, .ref x3, .ref x4, .ref x5, .ref x6, .int fi])), (x2, .inr (5, jmem M ca cg)), (ca, .inl (t 2, 8, .inr (.inr (.inr (.inr (jcaps ad))))))] ++ jpool t ad K) (by rw [upK_eta]) ?_
    exact jr_iret CC MM (jd ddX10_trigger 9 rfl) rfl (by decide) (by decide) ⟨by simp [eRec, jI, c2, ntr], by rw [nI_tn (by omega)], rfl⟩
set_option maxHeartbeats 8000000 in
set_option maxRecDepth 100000 in
theorem k_X10_length (l : Launch) (t : Nat → ClassId) (hfl : l.stackTraces = false) (h0 : Nat) (x1 : Nat) (x2 : Nat) (x3 : Nat) (x4 : Nat) (x5 : Nat) (x6 : Nat) (fi : Int32) (M : Nat → Int32) (ca : Nat) (cg : Option Nat) (ad : Nat → Nat) (K : Nat → JCap) (m8 : Nat) (x : Int32) (hM1 : M 1 = nI m8) (hm8 : m8 ≤ 8) : jKx l t yX10_length (Cond.code yX10_length cX10_length 2 (some .int) :: jWS) { frames := 7, cells := 1, slots := 6, locals := 103 } [.ref h0, .int x] ([(h0, .inr (9, [.ref x1, .ref x2, .ref x3, .ref x4, .ref x5, .ref x6, .int fi])), (x2, .inr (5, jmem M ca cg)), (ca, .inl (t 2, 8, .inr (.inr (.inr (.inr (jcaps ad))))))] ++ jpool t ad K) (fun vv uu => (((eRec (M 1) x) = 0) ∧ vv = some (.int ((K x.toNatClampNeg).2.2.1)) ∧ uu = ([(h0, .inr (9, [.ref x1, .ref x2, .ref x3, .ref x4, .ref x5, .ref x6, .int fi])), (x2, .inr (5, jmem M ca cg)), (ca, .inl (t 2, 8, .inr (.inr (.inr (.inr (jcaps ad))))))] ++ jpool t ad K))) (fun EE uu => (((eRec (M 1) x) = 1) ∧ EE = "java/lang/IndexOutOfBoundsException" ∧ uu = ([(h0, .inr (9, [.ref x1, .ref x2, .ref x3, .ref x4, .ref x5, .ref x6, .int fi])), (x2, .inr (5, jmem M ca cg)), (ca, .inl (t 2, 8, .inr (.inr (.inr (.inr (jcaps ad))))))] ++ jpool t ad K))) := by
  refine jK_of hfl (by decide +kernel) (Nat.le_of_ble_eq_true rfl) ?_
  intro p e s m args below meth c D A Q CC MM
  refine jr_norm0 [(0, .ref h0), (1, .int x)] rfl ?_
  refine jr_aload_n CC (jd ddX10_length 0 rfl) 0 rfl ?_
  refine jr_iload_n CC (jd ddX10_length 1 rfl) 1 rfl ?_
  refine jr_callV (q0 := 0) (rest := []) [.int x] CC (jd ddX10_length 2 rfl) (jy_X10_139 CC) (k_X10_checkRecord l t hfl h0 x1 x2 x3 x4 x5 x6 fi M ca cg x) [0, 1] rfl (by decide) rfl rfl rfl rfl (by decide) (Nat.le_of_ble_eq_true rfl) (by rintro v u h; rcases h with ⟨h0, rfl, rfl⟩ <;> rfl) (by rintro v u h; rcases h with ⟨h0, rfl, rfl⟩ <;> rfl) (fun E u hx => ?_) (fun v u h => ?_)
  · rcases hx with ⟨c1, rfl, rfl⟩
    exact jr_out CC MM (by decide) (by decide) ⟨by simp [eRec, jI, c1], rfl, rfl⟩
  · rcases h with ⟨c2, rfl, rfl⟩
    refine jr_ws (jput ([(h0, .inr (9, [.ref x1, .ref x2, .ref x3, .ref x4, .ref x5, .ref x6, .int fi])), (x2, .inr (5, jmem M ca cg)), (ca, .inl (t 2, 8, .inr (.inr (.inr (.inr (jcaps ad))))))] ++ jpool t ad K) [0, 1] [(h0, .inr (9, [.ref x1, .ref x2, .ref x3, .ref x4, .ref x5, .ref x6, .int fi])), (x2, .inr (5, jmem M ca cg))]) (jdrop_nil (by rfl)) ?_
    refine jr_norm ([(h0, .inr (9, [.ref x1, .ref x2, .ref x3, .ref x4, .ref x5, .ref x6, .int fi])), (x2, .inr (5, jmem M ca cg)), (ca, .inl (t 2, 8, .inr (.inr (.inr (.inr (jcaps ad))))))] ++ jpool t ad K) [] 5 1 6 rfl rfl rfl rfl rfl ?_
    obtain ⟨r, hr, rfl⟩ := jrec_nat (hM1 ▸ c2) hm8
    have ntr : (nI r).toNatClampNeg = r := nI_tn (by omega)
    refine jr_aload_n CC (jd ddX10_length 3 rfl) 0 rfl ?_
    refine jr_get (v := .ref x2) CC (jd ddX10_length 4 rfl) (jf_X10_19 CC) 0 rfl rfl ?_
    refine jr_get (v := .ref ca) CC (jd ddX10_length 5 rfl) (jf_X10_142 CC) 1 rfl rfl ?_
    refine jr_iload_n CC (jd ddX10_length 6 rfl) 1 rfl ?_
    refine jr_aldq (v := .ref (ad (4 * r))) CC (jd ddX10_length 7 rfl) 2 r rfl rfl (by omega) (by decide) rfl ?_
    refine jr_focus [(h0, .inr (9, [.ref x1, .ref x2, .ref x3, .ref x4, .ref x5, .ref x6, .int fi])), (x2, .inr (5, jmem M ca cg)), (ca, .inl (t 2, 8, .inr (.inr (.inr (.inr (jcaps ad))))))] r (by omega) ?_
    refine jr_ws ([(h0, .inr (9, [.ref x1, .ref x2, .ref x3, .ref x4, .ref x5, .ref x6, .int fi])), (x2, .inr (5, jmem M ca cg)), (ca, .inl (t 2, 8, .inr (.inr (.inr (.inr (jcaps ad)))))), ((ad (4 * r)), .inr (0, [.ref (ad (4 * r + 1)), .int ((K r).1), .int ((K r).2.1), .int ((K r).2.2.1)])), ((ad (4 * r + 1)), .inl (t 1, 2, .inr (.inr (.inr (.inr (jr2 (ad (4 * r + 2)) (ad (4 * r + 3)))))))), ((ad (4 * r + 2)), .inl (t 0, 49, .inl ((K r).2.2.2.1))), ((ad (4 * r + 3)), .inl (t 0, 49, .inl ((K r).2.2.2.2)))] ++ jpoolx t ad K r) rfl ?_
    refine jr_get (v := .int ((K r).2.2.1)) CC (jd ddX10_length 8 rfl) (jf_X10_151 CC) 3 rfl rfl ?_
    refine jr_ws ([(h0, .inr (9, [.ref x1, .ref x2, .ref x3, .ref x4, .ref x5, .ref x6, .int fi])), (x2, .inr (5, jmem M ca cg)), (ca, .inl (t 2, 8, .inr (.inr (.inr (.inr (jcaps ad))))))] ++ (jcapw t ad r ((K r).1, (K r).2.1, (K r).2.2.1, (K r).2.2.2.1, (K r).2.2.2.2) ++ jpoolx t ad K r)) rfl ?_
    refine jr_unfocus [(h0, .inr (9, [.ref x1, .ref x2, .ref x3, .ref x4, .ref x5, .ref x6, .int fi])), (x2, .inr (5, jmem M ca cg)), (ca, .inl (t 2, 8, .inr (.inr (.inr (.inr (jcaps ad))))))] r (by omega) ?_
    refine jr_ws ([(h0, .inr (9, [.ref x1, .ref x2, .ref x3, .ref x4, .ref x5, .ref x6, .int fi])), (x2, .inr (5, jmem M ca cg)), (ca, .inl (t 2, 8, .inr (.inr (.inr (.inr (jcaps ad))))))] ++ jpool t ad K) (by rw [upK_eta]) ?_
    exact jr_iret CC MM (jd ddX10_length 9 rfl) rfl (by decide) (by decide) ⟨by simp [eRec, jI, c2, ntr], by rw [nI_tn (by omega)], rfl⟩
set_option maxHeartbeats 8000000 in
set_option maxRecDepth 100000 in
theorem k_X10_checkPosition (l : Launch) (t : Nat → ClassId) (hfl : l.stackTraces = false) (h0 : Nat) (x1 : Nat) (x2 : Nat) (x3 : Nat) (x4 : Nat) (x5 : Nat) (x6 : Nat) (fi : Int32) (M : Nat → Int32) (ca : Nat) (cg : Option Nat) (ad : Nat → Nat) (K : Nat → JCap) (r : Nat) (x : Int64) (hr : r < 8) : jKx l t yX10_checkPosition (Cond.code yX10_checkPosition cX10_checkPosition 4 none :: jWS) { frames := 6, cells := 1, slots := 6, locals := 82 } [.ref h0, .int (nI r), .long x] ([(h0, .inr (9, [.ref x1, .ref x2, .ref x3, .ref x4, .ref x5, .ref x6, .int fi])), (x2, .inr (5, jmem M ca cg)), (ca, .inl (t 2, 8, .inr (.inr (.inr (.inr (jcaps ad))))))] ++ jpool t ad K) (fun vv uu => ((jpos (K r).2.2.1 x) ∧ vv = none ∧ uu = ([(h0, .inr (9, [.ref x1, .ref x2, .ref x3, .ref x4, .ref x5, .ref x6, .int fi])), (x2, .inr (5, jmem M ca cg)), (ca, .inl (t 2, 8, .inr (.inr (.inr (.inr (jcaps ad))))))] ++ jpool t ad K))) (fun EE uu => ((¬ jpos (K r).2.2.1 x) ∧ EE = "java/lang/IndexOutOfBoundsException" ∧ uu = ([(h0, .inr (9, [.ref x1, .ref x2, .ref x3, .ref x4, .ref x5, .ref x6, .int fi])), (x2, .inr (5, jmem M ca cg)), (ca, .inl (t 2, 8, .inr (.inr (.inr (.inr (jcaps ad))))))] ++ jpool t ad K))) := by
  refine jK_of hfl (by decide +kernel) (Nat.le_of_ble_eq_true rfl) ?_
  intro p e s m args below meth c D A Q CC MM
  refine jr_norm0 [(0, .ref h0), (1, .int (nI r)), (2, .long x)] rfl ?_
  refine jr_lload_n CC (jd ddX10_checkPosition 0 rfl) 2 rfl ?_
  refine jr_lconst (v := 0) CC (jd ddX10_checkPosition 1 rfl) (by decide) ?_
  refine jr_lcmp CC (jd ddX10_checkPosition 2 rfl) ?_
  refine jr_if_lt 24 CC (jd ddX10_checkPosition 3 rfl) (by decide) (fun c1 => ?_) (fun c1 => ?_)
  · exact jr_throw (rm := { frames := 0, cells := 0, slots := 0, locals := 0 }) (text := "there is no such position") CC MM (by decide +kernel) (jcl_X10_240 CC.2.2.2.2.1) (jini_2 CC.2.2.2.2.1) (by decide +kernel) (jat_X10_244 CC) (jgood_X10_244) (jd ddX10_checkPosition 14 rfl) (jd ddX10_checkPosition 15 rfl) (jd ddX10_checkPosition 16 rfl) (jd ddX10_checkPosition 17 rfl) (jd ddX10_checkPosition 18 rfl) ⟨by decide, Nat.le_of_ble_eq_true rfl, by decide, by decide⟩ ⟨(fun hP => by first | exact hP.1 c1 | exact c1 hP.2 | exact c1 hP.1 | exact hP.2 c1), rfl, rfl⟩
  · refine jr_lload_n CC (jd ddX10_checkPosition 4 rfl) 2 rfl ?_
    refine jr_aload_n CC (jd ddX10_checkPosition 5 rfl) 0 rfl ?_
    refine jr_get (v := .ref x2) CC (jd ddX10_checkPosition 6 rfl) (jf_X10_19 CC) 0 rfl rfl ?_
    refine jr_get (v := .ref ca) CC (jd ddX10_checkPosition 7 rfl) (jf_X10_142 CC) 1 rfl rfl ?_
    refine jr_iload_n CC (jd ddX10_checkPosition 8 rfl) 1 rfl ?_
    refine jr_aldq (v := .ref (ad (4 * r))) CC (jd ddX10_checkPosition 9 rfl) 2 r rfl rfl (by omega) (by decide) rfl ?_
    refine jr_focus [(h0, .inr (9, [.ref x1, .ref x2, .ref x3, .ref x4, .ref x5, .ref x6, .int fi])), (x2, .inr (5, jmem M ca cg)), (ca, .inl (t 2, 8, .inr (.inr (.inr (.inr (jcaps ad))))))] r (by omega) ?_
    refine jr_ws ([(h0, .inr (9, [.ref x1, .ref x2, .ref x3, .ref x4, .ref x5, .ref x6, .int fi])), (x2, .inr (5, jmem M ca cg)), (ca, .inl (t 2, 8, .inr (.inr (.inr (.inr (jcaps ad)))))), ((ad (4 * r)), .inr (0, [.ref (ad (4 * r + 1)), .int ((K r).1), .int ((K r).2.1), .int ((K r).2.2.1)])), ((ad (4 * r + 1)), .inl (t 1, 2, .inr (.inr (.inr (.inr (jr2 (ad (4 * r + 2)) (ad (4 * r + 3)))))))), ((ad (4 * r + 2)), .inl (t 0, 49, .inl ((K r).2.2.2.1))), ((ad (4 * r + 3)), .inl (t 0, 49, .inl ((K r).2.2.2.2)))] ++ jpoolx t ad K r) rfl ?_
    refine jr_pc (pc' := 16) rfl ?_
    refine jr_get (v := .int ((K r).2.2.1)) CC (jd ddX10_checkPosition 10 rfl) (jf_X10_151 CC) 3 rfl rfl ?_
    refine jr_i2l CC (jd ddX10_checkPosition 11 rfl) ?_
    refine jr_lcmp CC (jd ddX10_checkPosition 12 rfl) ?_
    refine jr_if_lt 34 CC (jd ddX10_checkPosition 13 rfl) (by decide) (fun c2 => ?_) (fun c2 => ?_)
    · refine jr_ws ([(h0, .inr (9, [.ref x1, .ref x2, .ref x3, .ref x4, .ref x5, .ref x6, .int fi])), (x2, .inr (5, jmem M ca cg)), (ca, .inl (t 2, 8, .inr (.inr (.inr (.inr (jcaps ad))))))] ++ (jcapw t ad r ((K r).1, (K r).2.1, (K r).2.2.1, (K r).2.2.2.1, (K r).2.2.2.2) ++ jpoolx t ad K r)) rfl ?_
      refine jr_unfocus [(h0, .inr (9, [.ref x1, .ref x2, .ref x3, .ref x4, .ref x5, .ref x6, .int fi])), (x2, .inr (5, jmem M ca cg)), (ca, .inl (t 2, 8, .inr (.inr (.inr (.inr (jcaps ad))))))] r (by omega) ?_
      refine jr_ws ([(h0, .inr (9, [.ref x1, .ref x2, .ref x3, .ref x4, .ref x5, .ref x6, .int fi])), (x2, .inr (5, jmem M ca cg)), (ca, .inl (t 2, 8, .inr (.inr (.inr (.inr (jcaps ad))))))] ++ jpool t ad K) (by rw [upK_eta]) ?_
      exact jr_vret CC MM (jd ddX10_checkPosition 19 rfl) rfl (by decide) (by decide) ⟨⟨c1, c2⟩, rfl, rfl⟩
    · refine jr_ws ([(h0, .inr (9, [.ref x1, .ref x2, .ref x3, .ref x4, .ref x5, .ref x6, .int fi])), (x2, .inr (5, jmem M ca cg)), (ca, .inl (t 2, 8, .inr (.inr (.inr (.inr (jcaps ad))))))] ++ (jcapw t ad r ((K r).1, (K r).2.1, (K r).2.2.1, (K r).2.2.2.1, (K r).2.2.2.2) ++ jpoolx t ad K r)) rfl ?_
      refine jr_unfocus [(h0, .inr (9, [.ref x1, .ref x2, .ref x3, .ref x4, .ref x5, .ref x6, .int fi])), (x2, .inr (5, jmem M ca cg)), (ca, .inl (t 2, 8, .inr (.inr (.inr (.inr (jcaps ad))))))] r (by omega) ?_
      refine jr_ws ([(h0, .inr (9, [.ref x1, .ref x2, .ref x3, .ref x4, .ref x5, .ref x6, .int fi])), (x2, .inr (5, jmem M ca cg)), (ca, .inl (t 2, 8, .inr (.inr (.inr (.inr (jcaps ad))))))] ++ jpool t ad K) (by rw [upK_eta]) ?_
      exact jr_throw (rm := { frames := 0, cells := 0, slots := 0, locals := 0 }) (text := "there is no such position") CC MM (by decide +kernel) (jcl_X10_240 CC.2.2.2.2.1) (jini_2 CC.2.2.2.2.1) (by decide +kernel) (jat_X10_244 CC) (jgood_X10_244) (jd ddX10_checkPosition 14 rfl) (jd ddX10_checkPosition 15 rfl) (jd ddX10_checkPosition 16 rfl) (jd ddX10_checkPosition 17 rfl) (jd ddX10_checkPosition 18 rfl) ⟨by decide, Nat.le_of_ble_eq_true rfl, by decide, by decide⟩ ⟨(fun hP => by first | exact hP.1 c2 | exact c2 hP.2 | exact c2 hP.1 | exact hP.2 c2), rfl, rfl⟩
set_option maxHeartbeats 8000000 in
set_option maxRecDepth 100000 in
theorem k_X10_value (l : Launch) (t : Nat → ClassId) (hfl : l.stackTraces = false) (h0 : Nat) (x1 : Nat) (x2 : Nat) (x3 : Nat) (x4 : Nat) (x5 : Nat) (x6 : Nat) (fi : Int32) (M : Nat → Int32) (ca : Nat) (cg : Option Nat) (ad : Nat → Nat) (K : Nat → JCap) (m8 : Nat) (x : Int32) (ch : Int32) (pos : Int32) (hM1 : M 1 = nI m8) (hm8 : m8 ≤ 8) (hK : recOK K m8) : jKx l t yX10_value (Cond.code yX10_value cX10_value 4 (some .int) :: jWS) { frames := 8, cells := 3, slots := 18, locals := 124 } [.ref h0, .int x, .int ch, .int pos] ([(h0, .inr (9, [.ref x1, .ref x2, .ref x3, .ref x4, .ref x5, .ref x6, .int fi])), (x2, .inr (5, jmem M ca cg)), (ca, .inl (t 2, 8, .inr (.inr (.inr (.inr (jcaps ad))))))] ++ jpool t ad K) (fun vv uu => (((eVal (M 1) x (K x.toNatClampNeg).2.2.1 pos ch) = 0) ∧ vv = some (.int (jat (K x.toNatClampNeg) ch pos.toNatClampNeg)) ∧ uu = ([(h0, .inr (9, [.ref x1, .ref x2, .ref x3, .ref x4, .ref x5, .ref x6, .int fi])), (x2, .inr (5, jmem M ca cg)), (ca, .inl (t 2, 8, .inr (.inr (.inr (.inr (jcaps ad))))))] ++ jpool t ad K))) (fun EE uu => (((eVal (M 1) x (K x.toNatClampNeg).2.2.1 pos ch) = 1) ∧ EE = "java/lang/IndexOutOfBoundsException" ∧ uu = ([(h0, .inr (9, [.ref x1, .ref x2, .ref x3, .ref x4, .ref x5, .ref x6, .int fi])), (x2, .inr (5, jmem M ca cg)), (ca, .inl (t 2, 8, .inr (.inr (.inr (.inr (jcaps ad))))))] ++ jpool t ad K)) ∨ (((eVal (M 1) x (K x.toNatClampNeg).2.2.1 pos ch) = 2) ∧ EE = "java/lang/IllegalArgumentException" ∧ uu = ([(h0, .inr (9, [.ref x1, .ref x2, .ref x3, .ref x4, .ref x5, .ref x6, .int fi])), (x2, .inr (5, jmem M ca cg)), (ca, .inl (t 2, 8, .inr (.inr (.inr (.inr (jcaps ad))))))] ++ jpool t ad K))) := by
  refine jK_of hfl (by decide +kernel) (Nat.le_of_ble_eq_true rfl) ?_
  intro p e s m args below meth c D A Q CC MM
  refine jr_norm0 [(0, .ref h0), (1, .int x), (2, .int ch), (3, .int pos)] rfl ?_
  refine jr_aload_n CC (jd ddX10_value 0 rfl) 0 rfl ?_
  refine jr_iload_n CC (jd ddX10_value 1 rfl) 1 rfl ?_
  refine jr_callV (q0 := 0) (rest := []) [.int x] CC (jd ddX10_value 2 rfl) (jy_X10_139 CC) (k_X10_checkRecord l t hfl h0 x1 x2 x3 x4 x5 x6 fi M ca cg x) [0, 1] rfl (by decide) rfl rfl rfl rfl (by decide) (Nat.le_of_ble_eq_true rfl) (by rintro v u h; rcases h with ⟨h0, rfl, rfl⟩ <;> rfl) (by rintro v u h; rcases h with ⟨h0, rfl, rfl⟩ <;> rfl) (fun E u hx => ?_) (fun v u h => ?_)
  · rcases hx with ⟨c1, rfl, rfl⟩
    exact jr_out CC MM (by decide) (by decide) (Or.inl ⟨by simp [eVal, jI, c1], rfl, rfl⟩)
  · rcases h with ⟨c2, rfl, rfl⟩
    refine jr_ws (jput ([(h0, .inr (9, [.ref x1, .ref x2, .ref x3, .ref x4, .ref x5, .ref x6, .int fi])), (x2, .inr (5, jmem M ca cg)), (ca, .inl (t 2, 8, .inr (.inr (.inr (.inr (jcaps ad))))))] ++ jpool t ad K) [0, 1] [(h0, .inr (9, [.ref x1, .ref x2, .ref x3, .ref x4, .ref x5, .ref x6, .int fi])), (x2, .inr (5, jmem M ca cg))]) (jdrop_nil (by rfl)) ?_
    refine jr_norm ([(h0, .inr (9, [.ref x1, .ref x2, .ref x3, .ref x4, .ref x5, .ref x6, .int fi])), (x2, .inr (5, jmem M ca cg)), (ca, .inl (t 2, 8, .inr (.inr (.inr (.inr (jcaps ad))))))] ++ jpool t ad K) [] 5 1 6 rfl rfl rfl rfl rfl ?_
    obtain ⟨r, hr, rfl⟩ := jrec_nat (hM1 ▸ c2) hm8
    have ntr : (nI r).toNatClampNeg = r := nI_tn (by omega)
    refine jr_aload_n CC (jd ddX10_value 3 rfl) 0 rfl ?_
    refine jr_iload_n CC (jd ddX10_value 4 rfl) 1 rfl ?_
    refine jr_iload_n CC (jd ddX10_value 5 rfl) 3 rfl ?_
    refine jr_i2l CC (jd ddX10_value 6 rfl) ?_
    refine jr_norm ([(h0, .inr (9, [.ref x1, .ref x2, .ref x3, .ref x4, .ref x5, .ref x6, .int fi])), (x2, .inr (5, jmem M ca cg)), (ca, .inl (t 2, 8, .inr (.inr (.inr (.inr (jcaps ad))))))] ++ jpool t ad K) [.long (Int32.toInt64 pos), .int (nI r), .ref h0] 9 1 6 rfl rfl rfl rfl rfl ?_
    refine jr_callV (q0 := 0) (rest := []) [.int (nI r), .long (Int32.toInt64 pos)] CC (jd ddX10_value 7 rfl) (jy_X10_154 CC) (k_X10_checkPosition l t hfl h0 x1 x2 x3 x4 x5 x6 fi M ca cg ad K r (Int32.toInt64 pos) (by first | assumption | omega | decide)) ([0, 1, 2] ++ (List.range 32).map (fun i => 3 + i)) (jpool_isC 3 rfl (is := [0, 1, 2]) rfl (by decide)) (by decide) rfl rfl rfl rfl (by decide) (Nat.le_of_ble_eq_true rfl) (by rintro v u h; rcases h with ⟨h0, rfl, rfl⟩ <;> exact jpool_same rfl) (by rintro v u h; rcases h with ⟨h0, rfl, rfl⟩ <;> exact jpool_same rfl) (fun E u hx => ?_) (fun v u h => ?_)
    · rcases hx with ⟨c3, rfl, rfl⟩
      refine jx_ws (jput [(h0, .inr (9, [.ref x1, .ref x2, .ref x3, .ref x4, .ref x5, .ref x6, .int fi])), (x2, .inr (5, jmem M ca cg)), (ca, .inl (t 2, 8, .inr (.inr (.inr (.inr (jcaps ad))))))] [0, 1, 2] [(h0, .inr (9, [.ref x1, .ref x2, .ref x3, .ref x4, .ref x5, .ref x6, .int fi])), (x2, .inr (5, jmem M ca cg)), (ca, .inl (t 2, 8, .inr (.inr (.inr (.inr (jcaps ad))))))] ++ jpool t ad K) (jpool_after 3 rfl rfl rfl (by decide)) ?_
      exact jr_out CC MM (by decide) (by decide) (Or.inl ⟨by simp [eVal, jI, c2, ntr, c3], rfl, rfl⟩)
    · rcases h with ⟨c4, rfl, rfl⟩
      refine jr_ws (jput [(h0, .inr (9, [.ref x1, .ref x2, .ref x3, .ref x4, .ref x5, .ref x6, .int fi])), (x2, .inr (5, jmem M ca cg)), (ca, .inl (t 2, 8, .inr (.inr (.inr (.inr (jcaps ad))))))] [0, 1, 2] [(h0, .inr (9, [.ref x1, .ref x2, .ref x3, .ref x4, .ref x5, .ref x6, .int fi])), (x2, .inr (5, jmem M ca cg)), (ca, .inl (t 2, 8, .inr (.inr (.inr (.inr (jcaps ad))))))] ++ jpool t ad K) (jpool_after 3 rfl rfl rfl (by decide)) ?_
      refine jr_norm ([(h0, .inr (9, [.ref x1, .ref x2, .ref x3, .ref x4, .ref x5, .ref x6, .int fi])), (x2, .inr (5, jmem M ca cg)), (ca, .inl (t 2, 8, .inr (.inr (.inr (.inr (jcaps ad))))))] ++ jpool t ad K) [] 12 2 12 rfl rfl rfl rfl rfl ?_
      obtain ⟨kk, hkk, hk49⟩ := hK r hr
      obtain ⟨j, hj, rfl⟩ := jpos_int (hkk ▸ c4) hk49
      have ntj : (nI j).toNatClampNeg = j := nI_tn (by omega)
      refine jr_iload_n CC (jd ddX10_value 8 rfl) 2 rfl ?_
      refine jr_callS (rest := []) [.int ch] CC (jd ddX10_value 9 rfl) (jy_X10_50 CC) (k_X10_checkChannel l t hfl ch) [] rfl (by decide) rfl rfl (by decide) (Nat.le_of_ble_eq_true rfl) (by rintro v u h; rcases h with ⟨h0, rfl, rfl⟩ <;> rfl) (by rintro v u h; rcases h with ⟨h0, rfl, rfl⟩ <;> rfl) (fun E u hx => ?_) (fun v u h => ?_)
      · rcases hx with ⟨c5, rfl, rfl⟩
        exact jr_out CC MM (by decide) (by decide) (Or.inr ⟨by simp [eVal, jI, c2, ntr, c4, ntj, c5], rfl, rfl⟩)
      · rcases h with ⟨c6, rfl, rfl⟩
        refine jr_ws (jput ([(h0, .inr (9, [.ref x1, .ref x2, .ref x3, .ref x4, .ref x5, .ref x6, .int fi])), (x2, .inr (5, jmem M ca cg)), (ca, .inl (t 2, 8, .inr (.inr (.inr (.inr (jcaps ad))))))] ++ jpool t ad K) [] []) (jdrop_nil (by rfl)) ?_
        refine jr_norm ([(h0, .inr (9, [.ref x1, .ref x2, .ref x3, .ref x4, .ref x5, .ref x6, .int fi])), (x2, .inr (5, jmem M ca cg)), (ca, .inl (t 2, 8, .inr (.inr (.inr (.inr (jcaps ad))))))] ++ jpool t ad K) [] 16 3 18 rfl rfl rfl rfl rfl ?_
        refine jr_aload_n CC (jd ddX10_value 10 rfl) 0 rfl ?_
        refine jr_get (v := .ref x2) CC (jd ddX10_value 11 rfl) (jf_X10_19 CC) 0 rfl rfl ?_
        refine jr_get (v := .ref ca) CC (jd ddX10_value 12 rfl) (jf_X10_142 CC) 1 rfl rfl ?_
        refine jr_iload_n CC (jd ddX10_value 13 rfl) 1 rfl ?_
        refine jr_aldq (v := .ref (ad (4 * r))) CC (jd ddX10_value 14 rfl) 2 r rfl rfl (by omega) (by decide) rfl ?_
        refine jr_focus [(h0, .inr (9, [.ref x1, .ref x2, .ref x3, .ref x4, .ref x5, .ref x6, .int fi])), (x2, .inr (5, jmem M ca cg)), (ca, .inl (t 2, 8, .inr (.inr (.inr (.inr (jcaps ad))))))] r (by omega) ?_
        refine jr_ws ([(h0, .inr (9, [.ref x1, .ref x2, .ref x3, .ref x4, .ref x5, .ref x6, .int fi])), (x2, .inr (5, jmem M ca cg)), (ca, .inl (t 2, 8, .inr (.inr (.inr (.inr (jcaps ad)))))), ((ad (4 * r)), .inr (0, [.ref (ad (4 * r + 1)), .int ((K r).1), .int ((K r).2.1), .int ((K r).2.2.1)])), ((ad (4 * r + 1)), .inl (t 1, 2, .inr (.inr (.inr (.inr (jr2 (ad (4 * r + 2)) (ad (4 * r + 3)))))))), ((ad (4 * r + 2)), .inl (t 0, 49, .inl ((K r).2.2.2.1))), ((ad (4 * r + 3)), .inl (t 0, 49, .inl ((K r).2.2.2.2)))] ++ jpoolx t ad K r) rfl ?_
        refine jr_iload_n CC (jd ddX10_value 15 rfl) 2 rfl ?_
        refine jr_iload_n CC (jd ddX10_value 16 rfl) 3 rfl ?_
        refine jr_callV (q0 := 3) (rest := []) [.int ch, .int (nI j)] CC (jd ddX10_value 17 rfl) (jy_X10_158 CC) (k_X0_at_u l t hfl (ad (4 * r)) (ad (4 * r + 1)) (ad (4 * r + 2)) (ad (4 * r + 3)) ((K r).1) ((K r).2.1) ((K r).2.2.1) ((K r).2.2.2.1) ((K r).2.2.2.2) ch j (by first | assumption | omega | decide)) [3, 4, 5, 6] rfl (by decide) rfl rfl rfl rfl (by decide) (Nat.le_of_ble_eq_true rfl) (by rintro v u h; rcases h with ⟨rfl, rfl⟩ <;> rfl) (fun _ _ h => h.elim) (fun _ _ h => h.elim) (fun v u h => ?_)
        rcases h with ⟨rfl, rfl⟩
        refine jr_ws (jput ([(h0, .inr (9, [.ref x1, .ref x2, .ref x3, .ref x4, .ref x5, .ref x6, .int fi])), (x2, .inr (5, jmem M ca cg)), (ca, .inl (t 2, 8, .inr (.inr (.inr (.inr (jcaps ad)))))), ((ad (4 * r)), .inr (0, [.ref (ad (4 * r + 1)), .int ((K r).1), .int ((K r).2.1), .int ((K r).2.2.1)])), ((ad (4 * r + 1)), .inl (t 1, 2, .inr (.inr (.inr (.inr (jr2 (ad (4 * r + 2)) (ad (4 * r + 3)))))))), ((ad (4 * r + 2)), .inl (t 0, 49, .inl ((K r).2.2.2.1))), ((ad (4 * r + 3)), .inl (t 0, 49, .inl ((K r).2.2.2.2)))] ++ jpoolx t ad K r) [3, 4, 5, 6] [((ad (4 * r)), .inr (0, [.ref (ad (4 * r + 1)), .int ((K r).1), .int ((K r).2.1), .int ((K r).2.2.1)])), ((ad (4 * r + 1)), .inl (t 1, 2, .inr (.inr (.inr (.inr (jr2 (ad (4 * r + 2)) (ad (4 * r + 3)))))))), ((ad (4 * r + 2)), .inl (t 0, 49, .inl ((K r).2.2.2.1))), ((ad (4 * r + 3)), .inl (t 0, 49, .inl ((K r).2.2.2.2)))]) (jdrop_nil (by rfl)) ?_
        refine jr_norm ([(h0, .inr (9, [.ref x1, .ref x2, .ref x3, .ref x4, .ref x5, .ref x6, .int fi])), (x2, .inr (5, jmem M ca cg)), (ca, .inl (t 2, 8, .inr (.inr (.inr (.inr (jcaps ad)))))), ((ad (4 * r)), .inr (0, [.ref (ad (4 * r + 1)), .int ((K r).1), .int ((K r).2.1), .int ((K r).2.2.1)])), ((ad (4 * r + 1)), .inl (t 1, 2, .inr (.inr (.inr (.inr (jr2 (ad (4 * r + 2)) (ad (4 * r + 3)))))))), ((ad (4 * r + 2)), .inl (t 0, 49, .inl ((K r).2.2.2.1))), ((ad (4 * r + 3)), .inl (t 0, 49, .inl ((K r).2.2.2.2)))] ++ jpoolx t ad K r) [.int (jsel ch (((K r).2.2.2.1) j) (((K r).2.2.2.2) j))] 30 3 18 rfl rfl rfl rfl rfl ?_
        refine jr_ws ([(h0, .inr (9, [.ref x1, .ref x2, .ref x3, .ref x4, .ref x5, .ref x6, .int fi])), (x2, .inr (5, jmem M ca cg)), (ca, .inl (t 2, 8, .inr (.inr (.inr (.inr (jcaps ad))))))] ++ (jcapw t ad r (((K r).1), ((K r).2.1), ((K r).2.2.1), ((K r).2.2.2.1), ((K r).2.2.2.2)) ++ jpoolx t ad K r)) rfl ?_
        refine jr_unfocus [(h0, .inr (9, [.ref x1, .ref x2, .ref x3, .ref x4, .ref x5, .ref x6, .int fi])), (x2, .inr (5, jmem M ca cg)), (ca, .inl (t 2, 8, .inr (.inr (.inr (.inr (jcaps ad))))))] r (by omega) ?_
        refine jr_ws ([(h0, .inr (9, [.ref x1, .ref x2, .ref x3, .ref x4, .ref x5, .ref x6, .int fi])), (x2, .inr (5, jmem M ca cg)), (ca, .inl (t 2, 8, .inr (.inr (.inr (.inr (jcaps ad))))))] ++ jpool t ad K) (by rw [upK_eta]) ?_
        exact jr_iret CC MM (jd ddX10_value 18 rfl) rfl (by decide) (by decide) ⟨by simp [eVal, jI, c2, ntr, c4, ntj, c6], by simp [jat, ntr, ntj], rfl⟩
set_option maxHeartbeats 8000000 in
set_option maxRecDepth 100000 in
theorem k_X10_groupEnd (l : Launch) (t : Nat → ClassId) (hfl : l.stackTraces = false) (h0 : Nat) (h1 : Nat) (tr : Int32) (wa : Int32) (k : Nat) (sz : Nat) (sn : Nat) (hs : sz ≤ 16) (hn : sn ≤ 49) (hk : k ≤ 49) : jKx l t yX10_groupEnd (Cond.code yX10_groupEnd cX10_groupEnd 3 (some .int) :: jWS) { frames := 1, cells := 0, slots := 0, locals := 15 } [.ref h0, .int (nI sz), .int (nI sn)] [(h0, .inr (0, [.ref h1, .int tr, .int wa, .int (nI k)]))] (fun vv uu => (vv = some (.int (nI (min (sn + sz) k))) ∧ uu = [(h0, .inr (0, [.ref h1, .int tr, .int wa, .int (nI k)]))])) (fun _ _ => False) := by
  refine jK_of hfl (by decide +kernel) (Nat.le_of_ble_eq_true rfl) ?_
  intro p e s m args below meth c D A Q CC MM
  refine jr_norm0 [(0, .ref h0), (1, .int (nI sz)), (2, .int (nI sn))] rfl ?_
  refine jr_iload_n CC (jd ddX10_groupEnd 0 rfl) 2 rfl ?_
  refine jr_iload_n CC (jd ddX10_groupEnd 1 rfl) 1 rfl ?_
  refine jr_iadd CC (jd ddX10_groupEnd 2 rfl) ?_
  refine jr_st [.int (nI (sn + sz))] (by rw [nI_add]) ?_
  refine jr_aload_n CC (jd ddX10_groupEnd 3 rfl) 0 rfl ?_
  refine jr_get (v := .int (nI k)) CC (jd ddX10_groupEnd 4 rfl) (jf_X10_151 CC) 0 rfl rfl ?_
  refine jr_mmin CC (jd ddX10_groupEnd 5 rfl) (jy_X10_170 CC) (by decide) (Nat.le_of_ble_eq_true rfl) (by decide) (by decide) ?_
  refine jr_st [.int (nI (min (sn + sz) k))] (by rw [jmin_nI (by omega) (by omega)]) ?_
  exact jr_iret CC MM (jd ddX10_groupEnd 6 rfl) rfl (by decide) (by decide) ⟨rfl, rfl⟩
set_option maxHeartbeats 8000000 in
set_option maxRecDepth 100000 in
theorem k_X10_checkGroup (l : Launch) (t : Nat → ClassId) (hfl : l.stackTraces = false) (h0 : Nat) (x1 : Nat) (x2 : Nat) (x3 : Nat) (x4 : Nat) (x5 : Nat) (x6 : Nat) (fi : Int32) (M : Nat → Int32) (ca : Nat) (cg : Option Nat) (ad : Nat → Nat) (K : Nat → JCap) (m8 : Nat) (x : Int32) (ch : Int32) (sz : Int32) (g : Int32) (hM1 : M 1 = nI m8) (hm8 : m8 ≤ 8) : jKx l t yX10_checkGroup (Cond.code yX10_checkGroup cX10_checkGroup 5 none :: jWS) { frames := 8, cells := 4, slots := 24, locals := 124 } [.ref h0, .int x, .int ch, .int sz, .int g] ([(h0, .inr (9, [.ref x1, .ref x2, .ref x3, .ref x4, .ref x5, .ref x6, .int fi])), (x2, .inr (5, jmem M ca cg)), (ca, .inl (t 2, 8, .inr (.inr (.inr (.inr (jcaps ad))))))] ++ jpool t ad K) (fun vv uu => ((jin ch 0 1) ∧ (jin sz 1 16) ∧ (jrec (M 1) x) ∧ (jpos (K x.toNatClampNeg).2.2.1 (Int32.toInt64 sz * Int32.toInt64 g)) ∧ vv = none ∧ uu = ([(h0, .inr (9, [.ref x1, .ref x2, .ref x3, .ref x4, .ref x5, .ref x6, .int fi])), (x2, .inr (5, jmem M ca cg)), (ca, .inl (t 2, 8, .inr (.inr (.inr (.inr (jcaps ad))))))] ++ jpool t ad K))) (fun EE uu => (((eGrp (M 1) x (K x.toNatClampNeg).2.2.1 ch sz g) = 1) ∧ EE = "java/lang/IllegalArgumentException" ∧ uu = ([(h0, .inr (9, [.ref x1, .ref x2, .ref x3, .ref x4, .ref x5, .ref x6, .int fi])), (x2, .inr (5, jmem M ca cg)), (ca, .inl (t 2, 8, .inr (.inr (.inr (.inr (jcaps ad))))))] ++ jpool t ad K)) ∨ (((eGrp (M 1) x (K x.toNatClampNeg).2.2.1 ch sz g) = 2) ∧ EE = "java/lang/IndexOutOfBoundsException" ∧ uu = ([(h0, .inr (9, [.ref x1, .ref x2, .ref x3, .ref x4, .ref x5, .ref x6, .int fi])), (x2, .inr (5, jmem M ca cg)), (ca, .inl (t 2, 8, .inr (.inr (.inr (.inr (jcaps ad))))))] ++ jpool t ad K))) := by
  refine jK_of hfl (by decide +kernel) (Nat.le_of_ble_eq_true rfl) ?_
  intro p e s m args below meth c D A Q CC MM
  refine jr_norm0 [(0, .ref h0), (1, .int x), (2, .int ch), (3, .int sz), (4, .int g)] rfl ?_
  refine jr_iload_n CC (jd ddX10_checkGroup 0 rfl) 2 rfl ?_
  refine jr_callS (rest := []) [.int ch] CC (jd ddX10_checkGroup 1 rfl) (jy_X10_50 CC) (k_X10_checkChannel l t hfl ch) [] rfl (by decide) rfl rfl (by decide) (Nat.le_of_ble_eq_true rfl) (by rintro v u h; rcases h with ⟨h0, rfl, rfl⟩ <;> rfl) (by rintro v u h; rcases h with ⟨h0, rfl, rfl⟩ <;> rfl) (fun E u hx => ?_) (fun v u h => ?_)
  · rcases hx with ⟨c1, rfl, rfl⟩
    exact jr_out CC MM (by decide) (by decide) (Or.inl ⟨by simp [eGrp, jI, c1], rfl, rfl⟩)
  · rcases h with ⟨c2, rfl, rfl⟩
    refine jr_ws (jput ([(h0, .inr (9, [.ref x1, .ref x2, .ref x3, .ref x4, .ref x5, .ref x6, .int fi])), (x2, .inr (5, jmem M ca cg)), (ca, .inl (t 2, 8, .inr (.inr (.inr (.inr (jcaps ad))))))] ++ jpool t ad K) [] []) (jdrop_nil (by rfl)) ?_
    refine jr_norm ([(h0, .inr (9, [.ref x1, .ref x2, .ref x3, .ref x4, .ref x5, .ref x6, .int fi])), (x2, .inr (5, jmem M ca cg)), (ca, .inl (t 2, 8, .inr (.inr (.inr (.inr (jcaps ad))))))] ++ jpool t ad K) [] 4 1 6 rfl rfl rfl rfl rfl ?_
    refine jr_iload_n CC (jd ddX10_checkGroup 2 rfl) 3 rfl ?_
    refine jr_iconst (v := 1) CC (jd ddX10_checkGroup 3 rfl) (by decide) ?_
    refine jr_bipush (v := 16) CC (jd ddX10_checkGroup 4 rfl) (by decide) ?_
    refine jr_callS (rest := []) [.int sz, .int 1, .int 16] CC (jd ddX10_checkGroup 5 rfl) (jy_X10_57 CC) (k_X10_checkRange l t hfl sz 1 16) [] rfl (by decide) rfl rfl (by decide) (Nat.le_of_ble_eq_true rfl) (by rintro v u h; rcases h with ⟨h0, rfl, rfl⟩ <;> rfl) (by rintro v u h; rcases h with ⟨h0, rfl, rfl⟩ <;> rfl) (fun E u hx => ?_) (fun v u h => ?_)
    · rcases hx with ⟨c3, rfl, rfl⟩
      exact jr_out CC MM (by decide) (by decide) (Or.inl ⟨by simp [eGrp, jI, c2, c3], rfl, rfl⟩)
    · rcases h with ⟨c4, rfl, rfl⟩
      refine jr_ws (jput ([(h0, .inr (9, [.ref x1, .ref x2, .ref x3, .ref x4, .ref x5, .ref x6, .int fi])), (x2, .inr (5, jmem M ca cg)), (ca, .inl (t 2, 8, .inr (.inr (.inr (.inr (jcaps ad))))))] ++ jpool t ad K) [] []) (jdrop_nil (by rfl)) ?_
      refine jr_norm ([(h0, .inr (9, [.ref x1, .ref x2, .ref x3, .ref x4, .ref x5, .ref x6, .int fi])), (x2, .inr (5, jmem M ca cg)), (ca, .inl (t 2, 8, .inr (.inr (.inr (.inr (jcaps ad))))))] ++ jpool t ad K) [] 11 2 12 rfl rfl rfl rfl rfl ?_
      refine jr_aload_n CC (jd ddX10_checkGroup 6 rfl) 0 rfl ?_
      refine jr_iload_n CC (jd ddX10_checkGroup 7 rfl) 1 rfl ?_
      refine jr_callV (q0 := 0) (rest := []) [.int x] CC (jd ddX10_checkGroup 8 rfl) (jy_X10_139 CC) (k_X10_checkRecord l t hfl h0 x1 x2 x3 x4 x5 x6 fi M ca cg x) [0, 1] rfl (by decide) rfl rfl rfl rfl (by decide) (Nat.le_of_ble_eq_true rfl) (by rintro v u h; rcases h with ⟨h0, rfl, rfl⟩ <;> rfl) (by rintro v u h; rcases h with ⟨h0, rfl, rfl⟩ <;> rfl) (fun E u hx => ?_) (fun v u h => ?_)
      · rcases hx with ⟨c5, rfl, rfl⟩
        exact jr_out CC MM (by decide) (by decide) (Or.inr ⟨by simp [eGrp, jI, c2, c4, c5], rfl, rfl⟩)
      · rcases h with ⟨c6, rfl, rfl⟩
        refine jr_ws (jput ([(h0, .inr (9, [.ref x1, .ref x2, .ref x3, .ref x4, .ref x5, .ref x6, .int fi])), (x2, .inr (5, jmem M ca cg)), (ca, .inl (t 2, 8, .inr (.inr (.inr (.inr (jcaps ad))))))] ++ jpool t ad K) [0, 1] [(h0, .inr (9, [.ref x1, .ref x2, .ref x3, .ref x4, .ref x5, .ref x6, .int fi])), (x2, .inr (5, jmem M ca cg))]) (jdrop_nil (by rfl)) ?_
        refine jr_norm ([(h0, .inr (9, [.ref x1, .ref x2, .ref x3, .ref x4, .ref x5, .ref x6, .int fi])), (x2, .inr (5, jmem M ca cg)), (ca, .inl (t 2, 8, .inr (.inr (.inr (.inr (jcaps ad))))))] ++ jpool t ad K) [] 16 3 18 rfl rfl rfl rfl rfl ?_
        obtain ⟨r, hr, rfl⟩ := jrec_nat (hM1 ▸ c6) hm8
        have ntr : (nI r).toNatClampNeg = r := nI_tn (by omega)
        refine jr_aload_n CC (jd ddX10_checkGroup 9 rfl) 0 rfl ?_
        refine jr_iload_n CC (jd ddX10_checkGroup 10 rfl) 1 rfl ?_
        refine jr_iload_n CC (jd ddX10_checkGroup 11 rfl) 3 rfl ?_
        refine jr_i2l CC (jd ddX10_checkGroup 12 rfl) ?_
        refine jr_iload CC (jd ddX10_checkGroup 13 rfl) 4 rfl ?_
        refine jr_i2l CC (jd ddX10_checkGroup 14 rfl) ?_
        refine jr_lmul CC (jd ddX10_checkGroup 15 rfl) ?_
        refine jr_norm ([(h0, .inr (9, [.ref x1, .ref x2, .ref x3, .ref x4, .ref x5, .ref x6, .int fi])), (x2, .inr (5, jmem M ca cg)), (ca, .inl (t 2, 8, .inr (.inr (.inr (.inr (jcaps ad))))))] ++ jpool t ad K) [.long ((Int32.toInt64 sz) * (Int32.toInt64 g)), .int (nI r), .ref h0] 24 3 18 rfl rfl rfl rfl rfl ?_
        refine jr_callV (q0 := 0) (rest := []) [.int (nI r), .long ((Int32.toInt64 sz) * (Int32.toInt64 g))] CC (jd ddX10_checkGroup 16 rfl) (jy_X10_154 CC) (k_X10_checkPosition l t hfl h0 x1 x2 x3 x4 x5 x6 fi M ca cg ad K r ((Int32.toInt64 sz) * (Int32.toInt64 g)) (by first | assumption | omega | decide)) ([0, 1, 2] ++ (List.range 32).map (fun i => 3 + i)) (jpool_isC 3 rfl (is := [0, 1, 2]) rfl (by decide)) (by decide) rfl rfl rfl rfl (by decide) (Nat.le_of_ble_eq_true rfl) (by rintro v u h; rcases h with ⟨h0, rfl, rfl⟩ <;> exact jpool_same rfl) (by rintro v u h; rcases h with ⟨h0, rfl, rfl⟩ <;> exact jpool_same rfl) (fun E u hx => ?_) (fun v u h => ?_)
        · rcases hx with ⟨c7, rfl, rfl⟩
          refine jx_ws (jput [(h0, .inr (9, [.ref x1, .ref x2, .ref x3, .ref x4, .ref x5, .ref x6, .int fi])), (x2, .inr (5, jmem M ca cg)), (ca, .inl (t 2, 8, .inr (.inr (.inr (.inr (jcaps ad))))))] [0, 1, 2] [(h0, .inr (9, [.ref x1, .ref x2, .ref x3, .ref x4, .ref x5, .ref x6, .int fi])), (x2, .inr (5, jmem M ca cg)), (ca, .inl (t 2, 8, .inr (.inr (.inr (.inr (jcaps ad))))))] ++ jpool t ad K) (jpool_after 3 rfl rfl rfl (by decide)) ?_
          exact jr_out CC MM (by decide) (by decide) (Or.inr ⟨by simp [eGrp, jI, c2, c4, c6, ntr, c7], rfl, rfl⟩)
        · rcases h with ⟨c8, rfl, rfl⟩
          refine jr_ws (jput [(h0, .inr (9, [.ref x1, .ref x2, .ref x3, .ref x4, .ref x5, .ref x6, .int fi])), (x2, .inr (5, jmem M ca cg)), (ca, .inl (t 2, 8, .inr (.inr (.inr (.inr (jcaps ad))))))] [0, 1, 2] [(h0, .inr (9, [.ref x1, .ref x2, .ref x3, .ref x4, .ref x5, .ref x6, .int fi])), (x2, .inr (5, jmem M ca cg)), (ca, .inl (t 2, 8, .inr (.inr (.inr (.inr (jcaps ad))))))] ++ jpool t ad K) (jpool_after 3 rfl rfl rfl (by decide)) ?_
          refine jr_norm ([(h0, .inr (9, [.ref x1, .ref x2, .ref x3, .ref x4, .ref x5, .ref x6, .int fi])), (x2, .inr (5, jmem M ca cg)), (ca, .inl (t 2, 8, .inr (.inr (.inr (.inr (jcaps ad))))))] ++ jpool t ad K) [] 27 4 24 rfl rfl rfl rfl rfl ?_
          exact jr_vret CC MM (jd ddX10_checkGroup 17 rfl) rfl (by decide) (by decide) ⟨c2, c4, c6, (by rw [ntr]; exact c8), rfl, rfl⟩
