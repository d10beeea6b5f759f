/-! records read, both sides -/
theorem i32_neg_msb (z : Int32) : z < 0 ↔ z.toBitVec.msb = true := by
  rw [BitVec.msb_eq_toInt, decide_eq_true_iff, Int32.lt_iff_toInt_lt]
  exact Iff.rfl
theorem i32_xor_neg (x : Int32) {n : Nat} (hn : n < 2147483648) : x ^^^ nI n < 0 ↔ x < 0 := by
  rw [i32_neg_msb, i32_neg_msb x]
  have hy : (nI n).toBitVec.msb = false := by
    cases hq : (nI n).toBitVec.msb with
    | false => rfl
    | true => exact absurd ((i32_neg_msb _).mpr hq) (nI_pos hn)
  have e : (x ^^^ nI n).toBitVec = x.toBitVec ^^^ (nI n).toBitVec := rfl
  rw [e, BitVec.msb_xor, hy, Bool.xor_false]
theorem i32_div (V : Int32) {n : Nat} (h0 : 0 < n) (hn : n < 100) (h1 : -100000 < V.toInt) (h2 : V.toInt < 100000) : (V / nI n).toInt = V.toInt.tdiv n := by
  rw [Int32.toInt_div, nI_T (by omega)]
  have a1 : (V.toInt.tdiv (n : Int)).natAbs ≤ V.toInt.natAbs := Int.natAbs_tdiv_le_natAbs _ _
  apply Int.bmod_eq_of_le <;> omega
theorem fdiv_T (V : Int32) {n : Nat} (h0 : 0 < n) (hn : n < 100) (h1 : -100000 < V.toInt) (h2 : V.toInt < 100000) : (jfdiv V (nI n)).toInt = V.toInt / n := by
  have hd := i32_div V h0 hn h1 h2
  unfold jfdiv
  by_cases c : V < 0
  · rw [if_pos ((i32_xor_neg V (by omega)).mpr c)]
    have c' : V.toInt < 0 := Int32.lt_iff_toInt_lt.mp c
    have hq := Int.tdiv_eq_ediv (a := V.toInt) (b := (n : Int))
    have hmul : (V / nI n * nI n).toInt = V.toInt.tdiv n * n := by
      rw [Int32.toInt_mul, hd, nI_T (by omega)]
      have b1 := Int.ediv_mul_le V.toInt (show (n : Int) ≠ 0 by omega)
      have b2 := Int.lt_ediv_add_one_mul_self V.toInt (show (0 : Int) < (n : Int) by omega)
      rw [Int.add_mul, Int.one_mul] at b2
      have b3 : V.toInt.tdiv n * n = V.toInt / n * n ∨ V.toInt.tdiv n * n = V.toInt / n * n + n := by
        rw [hq]
        split
        · left; rw [Int.add_zero]
        · right; rw [Int.sign_eq_one_of_pos (by omega), Int.add_mul, Int.one_mul]
      apply Int.bmod_eq_of_le <;> omega
    by_cases dv : (n : Int) ∣ V.toInt
    · rw [if_pos (Or.inr dv), Int.add_zero] at hq
      rw [if_pos (by apply Int32.toInt_inj.mp; rw [hmul, hq]; exact Int.ediv_mul_cancel dv), hd, hq]
    · rw [if_neg (show ¬ (0 ≤ V.toInt ∨ (n : Int) ∣ V.toInt) by rintro (q | q); omega; exact dv q), Int.sign_eq_one_of_pos (by omega)] at hq
      have hne : ¬ V / nI n * nI n = V := by
        intro q
        apply dv
        have q2 := congrArg Int32.toInt q
        rw [hmul] at q2
        exact ⟨V.toInt.tdiv n, by rw [Int.mul_comm]; exact q2.symm⟩
      rw [if_neg hne, Int32.toInt_sub, hd, hq, show (1 : Int32).toInt = 1 from by decide, Int.add_sub_cancel]
      have a1 : (V.toInt.tdiv (n : Int)).natAbs ≤ V.toInt.natAbs := Int.natAbs_tdiv_le_natAbs _ _
      rw [hq] at a1
      apply Int.bmod_eq_of_le <;> omega
  · rw [if_neg (fun q => c ((i32_xor_neg V (by omega)).mp q)), hd]
    have c' : ¬ V.toInt < 0 := fun q => c (Int32.lt_iff_toInt_lt.mpr q)
    exact Int.tdiv_eq_ediv_of_nonneg (by omega)
theorem rIn_T {x : Int32} (h : rIn x) : -128 ≤ x.toInt ∧ x.toInt ≤ 127 := by
  have h1 : ¬ x.toInt < (-128 : Int32).toInt := fun q => h.1 (Int32.lt_iff_toInt_lt.mpr q)
  have h2 := Int32.le_iff_toInt_le.mp h.2
  have e1 : (-128 : Int32).toInt = -128 := by decide
  have e2 : (127 : Int32).toInt = 127 := by decide
  rw [e1] at h1
  rw [e2] at h2
  omega
theorem jsum_T (f : Nat → Int32) (d : Nat) : ∀ (i : Nat) (acc : Int32), (∀ j, i ≤ j → j < i + d → rIn (f j)) → -50000 ≤ acc.toInt - 128 * d → acc.toInt + 127 * d ≤ 50000 → acc.toInt - 128 * d ≤ (jsum f d i acc).toInt ∧ (jsum f d i acc).toInt ≤ acc.toInt + 127 * d := by
  induction d with
  | zero => intro i acc _ _ _; rw [jsum]; omega
  | succ d ih =>
    intro i acc h h1 h2
    rw [jsum]
    have hf := rIn_T (h i (Nat.le_refl _) (by omega))
    have e : (acc + f i).toInt = acc.toInt + (f i).toInt := by
      rw [Int32.toInt_add]
      apply Int.bmod_eq_of_le <;> omega
    have := ih (i + 1) (acc + f i) (fun j a b => h j (by omega) (by omega)) (by rw [e]; omega) (by rw [e]; omega)
    rw [e] at this
    omega
theorem jsum_128 (f : Nat → Int32) (d : Nat) : ∀ (i c : Nat) (acc : Int32), jsum (fun j => f j + 128) d i (acc + nI (128 * c)) = jsum f d i acc + nI (128 * (c + d)) := by
  induction d with
  | zero => intro i c acc; rfl
  | succ d ih =>
    intro i c acc
    rw [jsum, jsum]
    have e : acc + nI (128 * c) + (f i + 128) = acc + f i + nI (128 * (c + 1)) := by
      rw [Nat.mul_add, ← nI_add]
      show _ = acc + f i + (nI (128 * c) + 128)
      rw [Int32.add_assoc, Int32.add_assoc acc, ← Int32.add_assoc (nI (128 * c)), Int32.add_comm (nI (128 * c)), Int32.add_assoc (f i)]
    rw [e, ih (i + 1) (c + 1) (acc + f i), show c + 1 + d = c + (d + 1) by omega]
theorem mean_eq (f : Nat → Int32) (n st : Nat) (h1 : 1 ≤ n) (h16 : n ≤ 49) (h : ∀ j, st ≤ j → j < st + n → rIn (f j)) : jfdiv (jsum f n st 0) (nI (max 1 n)) = jsum (fun j => f j + 128) n st 0 / nI n - 128 := by
  rw [Nat.max_eq_right h1]
  have hb := jsum_T f n st 0 h (by show -50000 ≤ (0 : Int) - 128 * n; omega) (by show (0 : Int) + 127 * n ≤ 50000; omega)
  have e0 : (0 : Int32).toInt = 0 := by decide
  rw [e0] at hb
  have e1 := jsum_128 f n st 0 0
  rw [show (0 : Int32) + nI (128 * 0) = 0 from by decide, show (0 : Nat) + n = n by omega] at e1
  rw [e1]
  generalize hV : jsum f n st 0 = V at hb
  apply Int32.toInt_inj.mp
  rw [fdiv_T V (by omega) (by omega) (by omega) (by omega)]
  have eu : (V + nI (128 * n)).toInt = V.toInt + 128 * n := by
    rw [Int32.toInt_add, nI_T (by omega)]
    have : ((128 * n : Nat) : Int) = 128 * (n : Int) := by push_cast; rfl
    rw [this]
    apply Int.bmod_eq_of_le <;> omega
  have ed : ((V + nI (128 * n)) / nI n).toInt = V.toInt / n + 128 := by
    rw [i32_div _ (by omega) (by omega) (by rw [eu]; omega) (by rw [eu]; omega), eu, Int.tdiv_eq_ediv_of_nonneg (by omega), Int.mul_comm, Int.mul_comm (n : Int) 128, Int.add_mul_ediv_right _ _ (by omega)]
  have hq1 : V.toInt / (n : Int) ≤ 127 := by
    have := Int.ediv_le_of_le_mul (a := V.toInt) (b := 127) (c := (n : Int)) (by omega) (by omega)
    exact this
  have hq2 : -128 ≤ V.toInt / (n : Int) := Int.le_ediv_of_mul_le (by omega) (by omega)
  rw [Int32.toInt_sub, ed, show (128 : Int32).toInt = 128 from by decide, Int.add_sub_cancel]
  symm
  apply Int.bmod_eq_of_le <;> omega
theorem jlo_congr (f g : Nat → Int32) (d : Nat) : ∀ (i : Nat) (acc : Int32), (∀ j, i ≤ j → j < i + d → f j = g j) → jlo f d i acc = jlo g d i acc := by
  induction d with
  | zero => intro i acc _; rfl
  | succ d ih =>
    intro i acc h
    rw [jlo, jlo, h i (Nat.le_refl _) (by omega)]
    exact ih _ _ (fun j a b => h j (by omega) (by omega))
theorem jhi_congr (f g : Nat → Int32) (d : Nat) : ∀ (i : Nat) (acc : Int32), (∀ j, i ≤ j → j < i + d → f j = g j) → jhi f d i acc = jhi g d i acc := by
  induction d with
  | zero => intro i acc _; rfl
  | succ d ih =>
    intro i acc h
    rw [jhi, jhi, h i (Nat.le_refl _) (by omega)]
    exact ih _ _ (fun j a b => h j (by omega) (by omega))
theorem jsum_congr (f g : Nat → Int32) (d : Nat) : ∀ (i : Nat) (acc : Int32), (∀ j, i ≤ j → j < i + d → f j = g j) → jsum f d i acc = jsum g d i acc := by
  induction d with
  | zero => intro i acc _; rfl
  | succ d ih =>
    intro i acc h
    rw [jsum, jsum, h i (Nat.le_refl _) (by omega)]
    exact ih _ _ (fun j a b => h j (by omega) (by omega))
theorem jlo_127 (f : Nat → Int32) (n st : Nat) (hn : 1 ≤ n) (h : rIn (f st)) : jlo f n st (f st) = jlo f n st 127 := by
  obtain ⟨d, rfl⟩ : ∃ d, n = d + 1 := ⟨n - 1, by omega⟩
  rw [jlo, jlo]
  have e1 : jmin (f st) (f st) = f st := by unfold jmin; split <;> rfl
  have e2 : jmin 127 (f st) = f st := by
    by_cases c : f st < 127
    · exact if_pos c
    · unfold jmin; rw [if_neg c]; exact Int32.le_antisymm (Int32.not_lt.mp c) h.2
  rw [e1, e2]
theorem jhi_128 (f : Nat → Int32) (n st : Nat) (hn : 1 ≤ n) (h : rIn (f st)) : jhi f n st (f st) = jhi f n st (-128) := by
  obtain ⟨d, rfl⟩ : ∃ d, n = d + 1 := ⟨n - 1, by omega⟩
  rw [jhi, jhi]
  have e1 : jmax (f st) (f st) = f st := by unfold jmax; split <;> rfl
  have e2 : jmax (-128) (f st) = f st := by
    by_cases c : -128 < f st
    · exact if_pos c
    · unfold jmax; rw [if_neg c]; exact Int32.le_antisymm (Int32.not_lt.mp h.1) (Int32.not_lt.mp c)
  rw [e1, e2]
/-- a record's values by channel, both sides -/
theorem cmp_col {r : Nat} {K : Nat → JCap} {CU LN TG : Nat → Int32} (h : cmpR r K CU LN TG) {i : Nat} (hi : i < r) : ∃ k : Nat, LN i = nI k ∧ (K i).2.2.1 = nI k ∧ 1 ≤ k ∧ k ≤ 49 ∧ (K i).1 = TG i ∧ ∀ ch, ch ≤ 1 → ∀ j, j < k → jat (K i) (nI ch) j = mcol CU i ch j ∧ rIn (mcol CU i ch j) := by
  obtain ⟨h1, k, h2, h3, h4, h5, h6⟩ := h i hi
  refine ⟨k, h2, h5, h3, h4, h1, fun ch hch j hj => ?_⟩
  obtain ⟨g1, g2, g3, g4⟩ := h6 j hj
  unfold jat jsel mcol
  by_cases c : ch = 0
  · subst c
    rw [if_pos (show nI 0 = 0 from rfl), show 98 * i + 49 * 0 + j = 98 * i + j by omega]
    exact ⟨g1, g3⟩
  · have c1 : ch = 1 := by omega
    subst c1
    rw [if_neg (show ¬ nI 1 = 0 by decide), show 98 * i + 49 * 1 + j = 98 * i + 49 + j by omega]
    exact ⟨g2, g4⟩
theorem val_eq {r : Nat} {K : Nat → JCap} {CU LN TG : Nat → Int32} (h : cmpR r K CU LN TG) (hr : r ≤ 8) {x ch ps : Int32} (he : eVal (nI r) x (LN x.toNatClampNeg) ps ch = 0) : jat (K x.toNatClampNeg) ch ps.toNatClampNeg = mcol CU x.toNatClampNeg ch.toNatClampNeg ps.toNatClampNeg := by
  rw [eVal_m] at he
  by_cases h1 : mPl (nI r) LN x ps = 0
  · rw [if_pos h1] at he; exact absurd he (by decide)
  rw [if_neg h1] at he
  by_cases h2 : mIn ch 0 1 = 0
  · rw [if_pos h2] at he; exact absurd he (by decide)
  obtain ⟨p1, p2, p3⟩ := mPl_inv h1
  obtain ⟨i, hi, rfl⟩ := jrec_nat ((jrec_iff _ _).mpr p1) hr
  rw [nI_tn (by omega)] at p3 ⊢
  obtain ⟨k, g1, g2, g3, g4, g5, g6⟩ := cmp_col h hi
  rw [g1] at p3
  obtain ⟨j, hj, rfl⟩ := jpos_int ((jpos_iff _ _).mpr ⟨p2, p3⟩) g4
  obtain ⟨c1, hc1, rfl⟩ := jin_nat 1 ((jin_iff _ _ _).mpr h2) (by decide) rfl
  rw [nI_tn (by omega), nI_tn (by omega)]
  exact (g6 c1 hc1 j hj).1
/-- a group of a record -/
theorem grp_facts {r : Nat} {K : Nat → JCap} {CU LN TG : Nat → Int32} (h : cmpR r K CU LN TG) (hr : r ≤ 8) {x ch sz g : Int32} (he : eGrp (nI r) x (LN x.toNatClampNeg) ch sz g = 0) :
    ∃ (i c n st : Nat), x.toNatClampNeg = i ∧ ch = nI c ∧ ch.toNatClampNeg = c ∧ i < r ∧ c ≤ 1 ∧ 1 ≤ n ∧ n ≤ 16 ∧ grpN (LN i) sz g = n ∧ grpN (K i).2.2.1 sz g = n ∧ sz.toNatClampNeg * g.toNatClampNeg = st ∧ ∀ j, st ≤ j → j < st + n → jat (K i) ch j = mcol CU i c j ∧ rIn (mcol CU i c j) := by
  obtain ⟨⟨e1, e2⟩, e3, e4⟩ := eGrp_inv he
  obtain ⟨i, hi, rfl⟩ := jrec_nat e3 hr
  rw [nI_tn (by omega)] at e4 ⊢
  obtain ⟨k, g1, g2, g3, g4, g5, g6⟩ := cmp_col h hi
  rw [g1] at e4
  obtain ⟨c1, hc1, rfl⟩ := jin_nat 1 e1 (by decide) rfl
  obtain ⟨s1, hs1, rfl⟩ := jin_nat 16 e2 (by decide) rfl
  have hs2 := jlt_not (b := 1) e2.1 (by omega) (by decide)
  obtain ⟨j1, hj1, rfl⟩ := jpos_grp e4 hs2 hs1 g4
  have hj2 : j1 ≤ s1 * j1 := Nat.le_mul_of_pos_left j1 hs2
  refine ⟨i, c1, min (s1 * j1 + s1) k - s1 * j1, s1 * j1, rfl, rfl, nI_tn (by omega), hi, hc1, by omega, by omega, ?_, ?_, ?_, fun j a b => g6 c1 hc1 j (by omega)⟩
  · rw [g1]; unfold grpN; rw [nI_tn (by omega), nI_tn (by omega), nI_tn (by omega)]
  · rw [g2]; unfold grpN; rw [nI_tn (by omega), nI_tn (by omega), nI_tn (by omega)]
  · rw [nI_tn (by omega), nI_tn (by omega)]
theorem low_eq {r : Nat} {K : Nat → JCap} {CU LN TG : Nat → Int32} (h : cmpR r K CU LN TG) (hr : r ≤ 8) {x ch sz g : Int32} (he : eGrp (nI r) x (LN x.toNatClampNeg) ch sz g = 0) : cLow (K x.toNatClampNeg) ch sz g = mLow CU LN x ch sz g := by
  obtain ⟨i, c, n, st, a1, a2, a3, a4, a5, a6, a7, a8, a9, b1, b2⟩ := grp_facts h hr he
  unfold cLow mLow
  rw [a1, a3, a8, a9, b1, (b2 st (Nat.le_refl _) (by omega)).1, ← jlo_127 _ _ _ a6 (b2 st (Nat.le_refl _) (by omega)).2]
  exact jlo_congr _ _ _ _ _ (fun j p q => (b2 j p q).1)
theorem high_eq {r : Nat} {K : Nat → JCap} {CU LN TG : Nat → Int32} (h : cmpR r K CU LN TG) (hr : r ≤ 8) {x ch sz g : Int32} (he : eGrp (nI r) x (LN x.toNatClampNeg) ch sz g = 0) : cHigh (K x.toNatClampNeg) ch sz g = mHigh CU LN x ch sz g := by
  obtain ⟨i, c, n, st, a1, a2, a3, a4, a5, a6, a7, a8, a9, b1, b2⟩ := grp_facts h hr he
  unfold cHigh mHigh
  rw [a1, a3, a8, a9, b1, (b2 st (Nat.le_refl _) (by omega)).1, ← jhi_128 _ _ _ a6 (b2 st (Nat.le_refl _) (by omega)).2]
  exact jhi_congr _ _ _ _ _ (fun j p q => (b2 j p q).1)
theorem mean_eq2 {r : Nat} {K : Nat → JCap} {CU LN TG : Nat → Int32} (h : cmpR r K CU LN TG) (hr : r ≤ 8) {x ch sz g : Int32} (he : eGrp (nI r) x (LN x.toNatClampNeg) ch sz g = 0) : cMean (K x.toNatClampNeg) ch sz g = mMean CU LN x ch sz g := by
  obtain ⟨i, c, n, st, a1, a2, a3, a4, a5, a6, a7, a8, a9, b1, b2⟩ := grp_facts h hr he
  unfold cMean mMean
  rw [a1, a3, a8, a9, b1, jsum_congr (jat (K i) ch) (mcol CU i c) n st 0 (fun j p q => (b2 j p q).1)]
  exact mean_eq _ _ _ a6 (by omega) (fun j p q => (b2 j p q).2)
/-- rescan, both sides -/
theorem scan_eq {ci : Nat} {G R : Nat → Int32} {nr : Int32} {W : Nat} (hc : cRel ci G R nr W) {kr : JCap} {CU : Nat → Int32} {i k : Nat} (hk : k ≤ 49) (hv : ∀ j, j < k → kr.2.2.2.1 j = mcol CU i 0 j ∧ kr.2.2.2.2 j = mcol CU i 1 j) (X : Nat → Int32) (hX : ∀ z, z < 6 → X z = R z) (j : Nat) (hj : j ≤ k) :
    cRel ci (jscanG ci kr (cNew ci G) j) (mscG CU i X j) (nI j) j ∧ mscS CU i X j = nI (jscanN ci kr (cNew ci G) j) := by
  induction j with
  | zero =>
    have b := mBegins_0 X
    exact ⟨cRel_new hc (mBegins X) (fun z hz => (mBegins_k X z (Or.inl hz)).trans (hX z hz)) ⟨b.1, b.2.1, b.2.2.1, b.2.2.2.2.2.1⟩, rfl⟩
  | succ j ih =>
    obtain ⟨h1, h2⟩ := ih (by omega)
    obtain ⟨v1, v2⟩ := hv j (by omega)
    obtain ⟨s1, s2⟩ := cRel_step h1 (by omega) (kr.2.2.2.1 j) (kr.2.2.2.2 j)
    rw [jscanG, mscG, mscS, jscanN, ← v1, ← v2]
    rw [nI_1] at s2
    refine ⟨s2, ?_⟩
    rw [h2, ← s1]
    unfold m01
    by_cases z : cR ci (jscanG ci kr (cNew ci G) j) (nI j) (kr.2.2.2.1 j) (kr.2.2.2.2 j) = 0
    · rw [if_pos z, if_pos z, Int32.add_zero]
    · rw [if_neg z, if_neg z, nI_1]
theorem mRest_k (R X : Nat → Int32) : (∀ z, z = 6 ∨ z = 7 ∨ z = 8 ∨ z = 9 ∨ z = 10 ∨ z = 12 ∨ z = 13 ∨ z = 14 ∨ z = 15 ∨ z = 16 → mRest R X z = R z) ∧ ∀ z, z < 6 ∨ z = 11 ∨ 17 ≤ z → mRest R X z = X z := by
  refine ⟨fun z hz => ?_, fun z hz => ?_⟩
  · unfold mRest upd
    rcases hz with rfl | rfl | rfl | rfl | rfl | rfl | rfl | rfl | rfl | rfl <;> rfl
  · unfold mRest
    rw [pk_un (by omega), pk_un (by omega), pk_un (by omega), pk_un (by omega), pk_un (by omega), pk_un (by omega), pk_un (by omega), pk_un (by omega), pk_un (by omega), pk_un (by omega)]
theorem mscG_k (CU : Nat → Int32) (i : Nat) (X : Nat → Int32) (j z : Nat) (hz : z < 6 ∨ 17 ≤ z) : mscG CU i X j z = X z := by
  induction j with
  | zero => exact mBegins_k X z (by omega)
  | succ j ih => exact (mG_k _ _ _ _ hz).trans ih
theorem RUN_rescan {ci : Nat} {S : JS} {fl ce : Nat → Int32} {T : MS} {MK LO HI : Nat → Int32} (h : RUN ci S fl ce T MK LO HI) (i j : Nat) : RUN ci S fl ce (tSetR T (mRest T.1 (mscG T.2.2.2.1 i (upd T.1 44 0) j))) MK LO HI := by
  obtain ⟨P, q, r, h⟩ := h
  obtain ⟨k1, k2⟩ := mRest_k T.1 (mscG T.2.2.2.1 i (upd T.1 44 0) j)
  have kk : ∀ z, z < 6 ∨ 17 ≤ z → z ≠ 44 → mRest T.1 (mscG T.2.2.2.1 i (upd T.1 44 0) j) z = T.1 z := fun z hz h4 => (k2 z (by omega)).trans ((mscG_k _ _ _ _ z hz).trans (pk_un h4))
  refine ⟨P, q, r, runR_cond h ?_ ?_ (fun z h1 h2 => kk z (Or.inr h1) (by omega))⟩
  · have hc := h.2.2.1
    unfold cRel at hc ⊢
    show _ ∨ _
    rw [show (tSetR T (mRest T.1 (mscG T.2.2.2.1 i (upd T.1 44 0) j))).1 = mRest T.1 (mscG T.2.2.2.1 i (upd T.1 44 0) j) from rfl]
    rw [kk 0 (by decide) (by decide), kk 1 (by decide) (by decide), kk 2 (by decide) (by decide), kk 3 (by decide) (by decide), kk 4 (by decide) (by decide), kk 5 (by decide) (by decide), k1 6 (by decide), k1 7 (by decide), k1 8 (by decide), k1 9 (by decide), k1 10 (by decide), k1 12 (by decide), k1 13 (by decide), k1 14 (by decide), k1 15 (by decide), k1 16 (by decide)]
    exact hc
  · have hb := h.2.1
    unfold mBool at hb ⊢
    rw [show (tSetR T (mRest T.1 (mscG T.2.2.2.1 i (upd T.1 44 0) j))).1 = mRest T.1 (mscG T.2.2.2.1 i (upd T.1 44 0) j) from rfl]
    rw [kk 5 (by decide) (by decide), k1 6 (by decide), k1 9 (by decide), k1 12 (by decide), k1 13 (by decide), k1 14 (by decide), kk 20 (by decide) (by decide), kk 21 (by decide) (by decide), kk 22 (by decide) (by decide)]
    exact hb
