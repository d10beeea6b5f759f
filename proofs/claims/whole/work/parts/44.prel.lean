/-! both sides between two calls -/
theorem runR_congr {ci : Nat} {fi : Int32} {G : Nat → Int32} {n : Nat} {u0 u1 M : Nat → Int32} {f : Bool} {K : Nat → JCap} {fl ce R R' F1 F2 CU LN TG MK LO HI : Nat → Int32} {P q r : Nat} (h : runR ci fi G n u0 u1 M f K fl ce R F1 F2 CU LN TG MK LO HI P q r) (e : ∀ k, k < 37 → R' k = R k) : runR ci fi G n u0 u1 M f K fl ce R' F1 F2 CU LN TG MK LO HI P q r := by
  obtain ⟨hN, hB, hc, h21, hr⟩ := h
  refine ⟨?_, ?_, cRel_congr hc (fun k hk => e k (by omega)), (e 21 (by decide)).trans h21, hr⟩
  · unfold numR at hN ⊢
    rw [e 24 (by decide), e 17 (by decide), e 18 (by decide), e 28 (by decide), e 19 (by decide), e 20 (by decide), e 22 (by decide), e 23 (by decide), e 25 (by decide), e 35 (by decide), e 36 (by decide)]
    exact hN
  · unfold mBool at hB ⊢
    rw [e 5 (by decide), e 6 (by decide), e 9 (by decide), e 12 (by decide), e 13 (by decide), e 14 (by decide), e 20 (by decide), e 21 (by decide), e 22 (by decide)]
    exact hB
def RUN (ci : Nat) (S : JS) (fl ce : Nat → Int32) (T : MS) (MK LO HI : Nat → Int32) : Prop := ∃ P q r : Nat, runR ci S.1 S.2.1 S.2.2.1 S.2.2.2.1 S.2.2.2.2.1 S.2.2.2.2.2.1 S.2.2.2.2.2.2.1 S.2.2.2.2.2.2.2 fl ce T.1 T.2.1 T.2.2.1 T.2.2.2.1 T.2.2.2.2.1 T.2.2.2.2.2 MK LO HI P q r
theorem RUN_sInv {ci : Nat} {S : JS} {fl ce : Nat → Int32} {T : MS} {MK LO HI : Nat → Int32} (h : RUN ci S fl ce T MK LO HI) : sInv S := by
  obtain ⟨P, q, r, ⟨n24, n17, n18, n28, m1, m4, m5, n19, n20, n22, n23, n25, hr8, hP, hq, har, -⟩, -, -, -, hc, -⟩ := h
  refine ⟨r, P, q, m1, hr8, m4, hP, m5, hq, fun z => ?_⟩
  obtain ⟨hr, -, -, tl, k, -, -, -, -, hk, hC⟩ := hc z
  exact ⟨hr, P + 1 + q, k, ⟨hC.2.1, hC.2.2.1⟩, hk, by omega⟩
theorem RUN_tInv {ci : Nat} {S : JS} {fl ce : Nat → Int32} {T : MS} {MK LO HI : Nat → Int32} (h : RUN ci S fl ce T MK LO HI) (hn : S.2.2.1 < 1000000) : tInv T ∧ (T.1 24).toNatClampNeg = S.2.2.1 := by
  obtain ⟨P, q, r, h⟩ := h
  have ho := runR_tOK h hn
  exact ⟨⟨h.2.1, _, _, _, _, ho⟩, by rw [ho.1, nI_tn (by omega)]⟩
theorem RUN_ci {ci : Nat} {S : JS} {fl ce : Nat → Int32} {T : MS} {MK LO HI : Nat → Int32} (h : RUN ci S fl ce T MK LO HI) : (ci = 1 ∨ ci = 6 ∨ ci = 7 ∨ ci = 8) ∧ cOK ci S.2.1 := by
  obtain ⟨P, q, r, h⟩ := h
  exact cRel_ci h.2.2.1
theorem RUN_thr {ci : Nat} {S : JS} {fl ce : Nat → Int32} {T : MS} {MK LO HI : Nat → Int32} (h : RUN ci S fl ce T MK LO HI) : RUN ci S fl ce (tThr T) MK LO HI := by
  obtain ⟨P, q, r, h⟩ := h
  exact ⟨P, q, r, runR_congr h (fun k hk => tThr_k T k (by omega))⟩
theorem RUN_step {ci : Nat} {S : JS} {fl ce : Nat → Int32} {T : MS} {MK LO HI : Nat → Int32} (h : RUN ci S fl ce T MK LO HI) (hn : S.2.2.1 + 1 < 1000000) {a b : Int32} (ha : rIn a) (hb : rIn b) :
    (sStep ci fl ce S a b).2 = (tStepU MK LO HI T a b).2 ∧ ((tStepU MK LO HI T a b).2 = 0 ∨ (tStepU MK LO HI T a b).2 = 1) ∧ RUN ci (sStep ci fl ce S a b).1 fl ce (tStepU MK LO HI T a b).1 MK LO HI := by
  obtain ⟨P, q, r, h⟩ := h
  have ho := runR_tOK h (by omega)
  have hs := run_step h hn ha hb
  have m1 : (S.2.2.2.2.2.1 1).toNatClampNeg = r := by rw [h.1.2.2.2.2.1, nI_tn (by have := h.1.2.2.2.2.2.2.2.2.2.2.2.2.1; omega)]
  have m4 : (S.2.2.2.2.2.1 4).toNatClampNeg = P := by rw [h.1.2.2.2.2.2.1, nI_tn (by have := h.1.2.2.2.2.2.2.2.2.2.2.2.2.2.1; omega)]
  have e1 : sStepM ci fl ce S a b = mStep S.2.2.2.2.2.2.1 S.2.2.2.2.2.1 S.2.2.2.2.2.2.2 r (S.2.2.2.2.2.2.2 r).2.2.1.toNatClampNeg P S.2.2.1 S.2.2.2.1 S.2.2.2.2.1 (cR ci S.2.1 (nI S.2.2.1) a b) a b fl ce := by
    unfold sStepM
    rw [m1, m4]
  have e2 : tStepU MK LO HI T a b = tStep MK LO HI S.2.2.1 P q r T a b := tStepU_eq MK LO HI ho a b
  unfold sStep
  rw [e1, e2]
  obtain ⟨g1, g2, r', g3⟩ := hs
  exact ⟨g1, g2, P, q, r', g3⟩
theorem toI64_lt (x y : Int32) : x.toInt64 < y.toInt64 ↔ x < y := by
  rw [Int64.lt_iff_toInt_lt, Int32.toInt_toInt64, Int32.toInt_toInt64, Int32.lt_iff_toInt_lt]
theorem kept_held (x a b : Int32) (hab : a ≤ b) : jkept x.toInt64 a b = mHeld x a b := by
  unfold jkept jmaxL jminL mHeld
  by_cases c1 : x.toInt64 < b.toInt64
  · rw [if_pos c1]
    have c1' : x < b := (toI64_lt _ _).mp c1
    by_cases c2 : x.toInt64 < a.toInt64
    · rw [if_pos c2, if_neg (Int32.not_le.mpr ((toI64_lt _ _).mp c2)), Int32.toInt32_toInt64]
    · rw [if_neg c2, if_pos (Int32.not_lt.mp (fun z => c2 ((toI64_lt _ _).mpr z))), if_pos (Int32.le_of_lt c1'), Int32.toInt32_toInt64]
  · rw [if_neg c1]
    have c1' : b ≤ x := Int32.not_lt.mp (fun z => c1 ((toI64_lt _ _).mpr z))
    rw [if_neg (fun z => Int32.not_lt.mpr hab ((toI64_lt _ _).mp z)), Int32.toInt32_toInt64, if_pos (Int32.le_trans hab c1')]
    by_cases c3 : x ≤ b
    · rw [if_pos c3]; exact Int32.le_antisymm c1' c3
    · rw [if_neg c3]
theorem rIn_held (x : Int32) : rIn (mHeld x (-128) 127) := by
  unfold mHeld rIn jin
  by_cases c : -128 ≤ x
  · rw [if_pos c]
    by_cases c2 : x ≤ 127
    · rw [if_pos c2]; exact ⟨Int32.not_lt.mpr c, c2⟩
    · rw [if_neg c2]; decide
  · rw [if_neg c]; decide
theorem held_in {x : Int32} (h : rIn x) : mHeld x (-128) 127 = x := by
  unfold mHeld
  rw [if_pos (Int32.not_lt.mp h.1), if_pos h.2]
/-- a run of samples on both sides -/
theorem RUN_run {ci : Nat} {S : JS} {fl ce : Nat → Int32} {T : MS} {MK LO HI : Nat → Int32} (h : RUN ci S fl ce T MK LO HI) (a b da db : Int32) (va vb : Nat → Int32) (hva : ∀ i, va i = mHeld (a + nI i * da) (-128) 127) (hvb : ∀ i, vb i = mHeld (b + nI i * db) (-128) 127) (i : Nat) (hi : S.2.2.1 + i < 1000000) :
    RUN ci (sRun ci fl ce S a b da db i).1 fl ce (tRun MK LO HI T va vb i).1 MK LO HI ∧ (tRun MK LO HI T va vb i).2 = nI (sRun ci fl ce S a b da db i).2 := by
  induction i with
  | zero => exact ⟨h, rfl⟩
  | succ i ih =>
    obtain ⟨h1, h2⟩ := ih (by omega)
    have hn := sRun_n ci fl ce S a b da db i
    rw [tRun_s, sRun]
    rw [kept_held _ _ _ (by decide), kept_held _ _ _ (by decide), ← hva i, ← hvb i]
    obtain ⟨g1, g2, g3⟩ := RUN_step h1 (by omega) (a := va i) (b := vb i) (by rw [hva]; exact rIn_held _) (by rw [hvb]; exact rIn_held _)
    refine ⟨g3, ?_⟩
    dsimp only
    rw [g1, h2]
    rcases g2 with g2 | g2
    · rw [g2, if_pos rfl, Int32.add_zero]
    · rw [g2, if_neg (by decide), nI_1]
theorem RUN_push {ci : Nat} {S : JS} {fl ce : Nat → Int32} {T : MS} {MK LO HI : Nat → Int32} (h : RUN ci S fl ce T MK LO HI) {a b : Int32} (ha : rIn a) (hb : rIn b) (i : Nat) (hi : S.2.2.1 + i < 1000000) :
    RUN ci (sRun ci fl ce S a b 0 0 i).1 fl ce (tRun MK LO HI (tThr T) (fun _ => a) (fun _ => b) i).1 MK LO HI ∧ (tRun MK LO HI (tThr T) (fun _ => a) (fun _ => b) i).2 = nI (sRun ci fl ce S a b 0 0 i).2 :=
  RUN_run (RUN_thr h) a b 0 0 _ _ (fun i => by rw [Int32.mul_zero, Int32.add_zero, held_in ha]) (fun i => by rw [Int32.mul_zero, Int32.add_zero, held_in hb]) i hi
theorem RUN_ramp {ci : Nat} {S : JS} {fl ce : Nat → Int32} {T : MS} {MK LO HI : Nat → Int32} (h : RUN ci S fl ce T MK LO HI) (a b da db : Int32) (i : Nat) (hi : S.2.2.1 + i < 1000000) :
    RUN ci (sRun ci fl ce S a b da db i).1 fl ce (tRun MK LO HI (tThr T) (rmpV a da) (rmpV b db) i).1 MK LO HI ∧ (tRun MK LO HI (tThr T) (rmpV a da) (rmpV b db) i).2 = nI (sRun ci fl ce S a b da db i).2 :=
  RUN_run (RUN_thr h) a b da db _ _ (fun _ => rfl) (fun _ => rfl) i hi
/-- another condition -/
theorem runR_cond {ci ci' : Nat} {fi : Int32} {G G' : Nat → Int32} {n : Nat} {u0 u1 M : Nat → Int32} {f : Bool} {K : Nat → JCap} {fl ce R R' F1 F2 CU LN TG MK LO HI : Nat → Int32} {P q r : Nat} (h : runR ci fi G n u0 u1 M f K fl ce R F1 F2 CU LN TG MK LO HI P q r) (hc : cRel ci' G' R' (nI n) n) (hB : mBool R') (e : ∀ k, 17 ≤ k → k < 37 → R' k = R k) : runR ci' fi G' n u0 u1 M f K fl ce R' F1 F2 CU LN TG MK LO HI P q r := by
  obtain ⟨hN, -, -, h21, hr⟩ := h
  refine ⟨?_, hB, hc, (e 21 (by decide) (by decide)).trans h21, hr⟩
  unfold numR at hN ⊢
  rw [e 24 (by decide) (by decide), e 17 (by decide) (by decide), e 18 (by decide) (by decide), e 28 (by decide) (by decide), e 19 (by decide) (by decide), e 20 (by decide) (by decide), e 22 (by decide) (by decide), e 23 (by decide) (by decide), e 25 (by decide) (by decide), e 35 (by decide) (by decide), e 36 (by decide) (by decide)]
  exact hN
theorem mSets_k (R : Nat → Int32) (k o a b c up : Int32) (z : Nat) (h : 17 ≤ z) : mSets R k o a b c up z = R z := by
  unfold mSets
  rw [mBegins_k _ _ (by omega), pk_un (by omega), pk_un (by omega), pk_un (by omega), pk_un (by omega), pk_un (by omega), pk_un (by omega)]
theorem mSets_6 (R : Nat → Int32) (k o a b c up : Int32) : mSets R k o a b c up 0 = k ∧ mSets R k o a b c up 1 = o ∧ mSets R k o a b c up 2 = a ∧ mSets R k o a b c up 3 = b ∧ mSets R k o a b c up 4 = c ∧ mSets R k o a b c up 5 = up := by
  unfold mSets
  refine ⟨?_, ?_, ?_, ?_, ?_, ?_⟩
  · rw [mBegins_k _ _ (by decide), pk_un (by decide), pk_un (by decide), pk_un (by decide), pk_un (by decide), pk_un (by decide), pk_us]
  · rw [mBegins_k _ _ (by decide), pk_un (by decide), pk_un (by decide), pk_un (by decide), pk_un (by decide), pk_us]
  · rw [mBegins_k _ _ (by decide), pk_un (by decide), pk_un (by decide), pk_un (by decide), pk_us]
  · rw [mBegins_k _ _ (by decide), pk_un (by decide), pk_un (by decide), pk_us]
  · rw [mBegins_k _ _ (by decide), pk_un (by decide), pk_us]
  · rw [mBegins_k _ _ (by decide), pk_us]
theorem mSets_0 (R : Nat → Int32) (k o a b c up : Int32) : mSets R k o a b c up 6 = 0 ∧ mSets R k o a b c up 9 = 0 ∧ mSets R k o a b c up 10 = 0 ∧ mSets R k o a b c up 14 = 0 := by
  have b := mBegins_0 (upd (upd (upd (upd (upd (upd R 0 k) 1 o) 2 a) 3 b) 4 c) 5 up)
  exact ⟨b.1, b.2.1, b.2.2.1, b.2.2.2.2.2.1⟩
theorem mSets_bool {R : Nat → Int32} (h : mBool R) (k o a b c : Int32) {up : Int32} (hu : up = 0 ∨ up = 1) : mBool (mSets R k o a b c up) :=
  mBool_b (mBool_u (mBool_u (mBool_u (mBool_u (mBool_u (mBool_u h 0 _ (Or.inl (by decide))) 1 _ (Or.inl (by decide))) 2 _ (Or.inl (by decide))) 3 _ (Or.inl (by decide))) 4 _ (Or.inl (by decide))) 5 _ (Or.inr hu))
