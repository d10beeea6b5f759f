/-- what a scope holds as it takes samples: 1 firings, 2 the condition's fields, 3 samples, 4 and 5 the last sixteen, 6 the memory's numbers, 7 whether a record is being caught, 8 the records -/
abbrev JS : Type := Int32 × (Nat → Int32) × Nat × (Nat → Int32) × (Nat → Int32) × (Nat → Int32) × Bool × (Nat → JCap)
def sM6 (S : JS) : Nat → Int32 := S.2.2.2.2.2.1
def sR (S : JS) : Nat := (S.2.2.2.2.2.1 1).toNatClampNeg
def sStepM (ci : Nat) (fl ce : Nat → Int32) (S : JS) (a b : Int32) : (Nat → Int32) × Bool × (Nat → JCap) × Int32 := mStep S.2.2.2.2.2.2.1 S.2.2.2.2.2.1 S.2.2.2.2.2.2.2 (S.2.2.2.2.2.1 1).toNatClampNeg (S.2.2.2.2.2.2.2 (S.2.2.2.2.2.1 1).toNatClampNeg).2.2.1.toNatClampNeg (S.2.2.2.2.2.1 4).toNatClampNeg S.2.2.1 S.2.2.2.1 S.2.2.2.2.1 (cR ci S.2.1 (nI S.2.2.1) a b) a b fl ce
def sStep (ci : Nat) (fl ce : Nat → Int32) (S : JS) (a b : Int32) : JS × Int32 := ((fiS S.1 (cR ci S.2.1 (nI S.2.2.1) a b), cG ci S.2.1 (nI S.2.2.1) a b, S.2.2.1 + 1, upd S.2.2.2.1 (S.2.2.1 % 16) a, upd S.2.2.2.2.1 (S.2.2.1 % 16) b, (sStepM ci fl ce S a b).1, (sStepM ci fl ce S a b).2.1, (sStepM ci fl ce S a b).2.2.1), (sStepM ci fl ce S a b).2.2.2)
/-- a record of the pool, of w samples wanted and k taken -/
def kIs (kr : JCap) (w k : Nat) : Prop := kr.2.1 = nI w ∧ kr.2.2.1 = nI k
/-- what holds of the numbers while samples are taken -/
def sInv (S : JS) : Prop := ∃ r P q : Nat, S.2.2.2.2.2.1 1 = nI r ∧ r ≤ 8 ∧ S.2.2.2.2.2.1 4 = nI P ∧ P ≤ 16 ∧ S.2.2.2.2.2.1 5 = nI q ∧ q ≤ 32 ∧ (S.2.2.2.2.2.2.1 = true → r < 8 ∧ ∃ w k, kIs (S.2.2.2.2.2.2.2 r) w k ∧ k < w ∧ w ≤ 49)
theorem nI_tn {n : Nat} (h : n < 2147483648) : (nI n).toNatClampNeg = n := by
  exact nI_clamp h
def sRun (ci : Nat) (fl ce : Nat → Int32) (S : JS) (a b da db : Int32) : Nat → JS × Nat
  | 0 => (S, 0)
  | i + 1 => ((sStep ci fl ce (sRun ci fl ce S a b da db i).1 (jkept (a + nI i * da).toInt64 (-128) 127) (jkept (b + nI i * db).toInt64 (-128) 127)).1, if (sStep ci fl ce (sRun ci fl ce S a b da db i).1 (jkept (a + nI i * da).toInt64 (-128) 127) (jkept (b + nI i * db).toInt64 (-128) 127)).2 = 0 then (sRun ci fl ce S a b da db i).2 else (sRun ci fl ce S a b da db i).2 + 1)
theorem sRun_n (ci : Nat) (fl ce : Nat → Int32) (S : JS) (a b da db : Int32) (i : Nat) : (sRun ci fl ce S a b da db i).1.2.2.1 = S.2.2.1 + i := by
  induction i with
  | zero => rfl
  | succ i ih => show (sRun ci fl ce S a b da db i).1.2.2.1 + 1 = _; rw [ih]; rfl
theorem sRun_2 (ci : Nat) (fl ce : Nat → Int32) (S : JS) (a b da db : Int32) (i : Nat) : (sRun ci fl ce S a b da db i).2 ≤ i := by
  induction i with
  | zero => exact Nat.le_refl _
  | succ i ih => rw [sRun]; dsimp only; split <;> omega
theorem mJudge_k (M : Nat → Int32) (f0 fl ce : Nat → Int32) (r k i : Nat) (h1 : i ≠ 9) (h2 : i ≠ 10) : mJudge M f0 fl ce r k i = M i := by
  unfold mJudge
  (repeat' split) <;> simp [upd, h1, h2]
theorem mDone_1 (M : Nat → Int32) : mDone M 1 = M 1 + 1 := by unfold mDone; split <;> simp [upd]
theorem mDone_k (M : Nat → Int32) (i : Nat) (h1 : i ≠ 1) (h2 : i ≠ 3) : mDone M i = M i := by unfold mDone; split <;> simp [upd, h1, h2]
theorem mCont_inv {M : Nat → Int32} {K : Nat → JCap} {r k w P q : Nat} (a b : Int32) (fl ce : Nat → Int32) (h1 : M 1 = nI r) (hr : r < 8) (h4 : M 4 = nI P) (hP : P ≤ 16) (h5 : M 5 = nI q) (hq : q ≤ 32) (hk : kIs (K r) w k) (hkw : k < w) (hw : w ≤ 49) :
    ∃ r' P' q' : Nat, (mCont M K r k a b fl ce).1 1 = nI r' ∧ r' ≤ 8 ∧ (mCont M K r k a b fl ce).1 4 = nI P' ∧ P' ≤ 16 ∧ (mCont M K r k a b fl ce).1 5 = nI q' ∧ q' ≤ 32 ∧ ((mCont M K r k a b fl ce).2.1 = true → r' < 8 ∧ ∃ w k', kIs ((mCont M K r k a b fl ce).2.2.1 r') w k' ∧ k' < w ∧ w ≤ 49) := by
  by_cases h : nI (k + 1) < (K r).2.1
  · have e : mCont M K r k a b fl ce = (M, true, mAddK K r k a b, 0) := if_pos h
    rw [e]
    rw [hk.1] at h
    exact ⟨r, P, q, h1, Nat.le_of_lt hr, h4, hP, h5, hq, fun _ => ⟨hr, w, k + 1, by unfold mAddK; dsimp only; rw [upK_s]; exact ⟨hk.1, rfl⟩, jlt_of h (by omega) (by omega), hw⟩⟩
  · have e : mCont M K r k a b fl ce = (mJudge (mDone M) (upd (K r).2.2.2.1 k a) fl ce r (k + 1), false, mAddK K r k a b, 1) := if_neg h
    rw [e]
    exact ⟨r + 1, P, q, by dsimp only; rw [mJudge_k _ _ _ _ _ _ _ (by decide) (by decide), mDone_1, h1, nI_1], hr, by dsimp only; rw [mJudge_k _ _ _ _ _ _ _ (by decide) (by decide), mDone_k _ _ (by decide) (by decide), h4], hP, by dsimp only; rw [mJudge_k _ _ _ _ _ _ _ (by decide) (by decide), mDone_k _ _ (by decide) (by decide), h5], hq, fun h => Bool.noConfusion h⟩
theorem sInv_step {ci : Nat} {fl ce : Nat → Int32} {S : JS} {a b : Int32} (h : sInv S) (hn : S.2.2.1 < 1000000) : sInv (sStep ci fl ce S a b).1 := by
  obtain ⟨fi, G, n, u0, u1, M, f, K⟩ := S
  obtain ⟨r, P, q, h1, hr, h4, hP, h5, hq, hc⟩ := h
  dsimp only at h1 h4 h5 hc hn
  have er : (M 1).toNatClampNeg = r := by rw [h1, nI_tn (by omega)]
  have eP : (M 4).toNatClampNeg = P := by rw [h4, nI_tn (by omega)]
  unfold sInv sStep sStepM
  dsimp only
  rw [er, eP]
  cases f with
  | true =>
    obtain ⟨hr8, w, k, hk, hkw, hw⟩ := hc rfl
    have ek : (K r).2.2.1.toNatClampNeg = k := by rw [hk.2, nI_tn (by omega)]
    rw [ek]
    have e9 : mStep true M K r k P n u0 u1 (cR ci G (nI n) a b) a b fl ce = mCont M K r k a b fl ce := rfl
    rw [e9]
    exact mCont_inv a b fl ce h1 hr8 h4 hP h5 hq hk hkw hw
  | false =>
    unfold mStep
    dsimp only
    split
    · exact ⟨r, P, q, h1, hr, h4, hP, h5, hq, fun h => Bool.noConfusion h⟩
    · split
      · exact ⟨r, P, q, h1, hr, h4, hP, h5, hq, fun h => Bool.noConfusion h⟩
      · rename_i hm
        have hr8 := mayT_r hm h1 hr
        have e4 : mBegM M n 4 = M 4 := by simp [mBegM, upd]
        have e5 : mBegM M n 5 = M 5 := by simp [mBegM, upd]
        have e1 : mBegM M n 1 = M 1 := by simp [mBegM, upd]
        by_cases hq0 : q = 0
        · subst hq0
          have hz : ¬ nI (P + 1) < (mBegK M K r n P u0 u1 r).2.1 := by
            unfold mBegK; rw [upK_s]
            show ¬ nI (P + 1) < M 4 + 1 + M 5
            rw [h4, h5, nI_1, nI_add]
            exact nI_nlt (by omega) (by omega)
          unfold mCont
          rw [if_neg hz]
          exact ⟨r + 1, P, 0, by dsimp only; rw [mJudge_k _ _ _ _ _ _ _ (by decide) (by decide), mDone_1, e1, h1, nI_1], hr8, by dsimp only; rw [mJudge_k _ _ _ _ _ _ _ (by decide) (by decide), mDone_k _ _ (by decide) (by decide), e4, h4], hP, by dsimp only; rw [mJudge_k _ _ _ _ _ _ _ (by decide) (by decide), mDone_k _ _ (by decide) (by decide), e5, h5], hq, fun h => Bool.noConfusion h⟩
        · exact mCont_inv (K := mBegK M K r n P u0 u1) (k := P) (w := P + 1 + q) a b fl ce (e1.trans h1) hr8 (e4.trans h4) hP (e5.trans h5) hq (by unfold mBegK; rw [upK_s]; exact ⟨by show M 4 + 1 + M 5 = _; rw [h4, h5, nI_1, nI_add], rfl⟩) (by omega) (by omega)
theorem sRun_inv {ci : Nat} {fl ce : Nat → Int32} {S : JS} {a b da db : Int32} (h : sInv S) : ∀ i : Nat, S.2.2.1 + i < 1000000 → sInv (sRun ci fl ce S a b da db i).1
  | 0, _ => h
  | i + 1, hi => sInv_step (sRun_inv h i (by omega)) (by rw [sRun_n]; omega)
theorem mCont_01 (M : Nat → Int32) (K : Nat → JCap) (r k : Nat) (a b : Int32) (fl ce : Nat → Int32) : (mCont M K r k a b fl ce).2.2.2 = 0 ∨ (mCont M K r k a b fl ce).2.2.2 = 1 := by
  unfold mCont; split <;> simp
theorem sStep_01 (ci : Nat) (fl ce : Nat → Int32) (S : JS) (a b : Int32) : (sStep ci fl ce S a b).2 = 0 ∨ (sStep ci fl ce S a b).2 = 1 := by
  unfold sStep sStepM mStep
  dsimp only
  split
  · exact mCont_01 _ _ _ _ _ _ _ _
  · split
    · simp
    · split
      · simp
      · exact mCont_01 _ _ _ _ _ _ _ _
theorem mCont_r (M : Nat → Int32) (K : Nat → JCap) (r k : Nat) (a b : Int32) (fl ce : Nat → Int32) (h : (mCont M K r k a b fl ce).2.1 = true) : (mCont M K r k a b fl ce).1 = M := by
  unfold mCont at h ⊢
  split at h
  · rename_i h2; rw [if_pos h2]
  · cases h
theorem mStep_r (f : Bool) (M : Nat → Int32) (K : Nat → JCap) (r k P n : Nat) (u0 u1 : Nat → Int32) (fr a b : Int32) (fl ce : Nat → Int32) (h : (mStep f M K r k P n u0 u1 fr a b fl ce).2.1 = true) : (mStep f M K r k P n u0 u1 fr a b fl ce).1 1 = M 1 := by
  cases f with
  | true =>
    have h2 : (mCont M K r k a b fl ce).2.1 = true := h
    show (mCont M K r k a b fl ce).1 1 = M 1
    rw [mCont_r _ _ _ _ _ _ _ _ h2]
  | false =>
    by_cases h1 : fr = 0
    · have e : mStep false M K r k P n u0 u1 fr a b fl ce = (M, false, K, 0) := if_pos h1
      rw [e]
    · by_cases h3 : mayT M (nI n) = 0
      · have e : mStep false M K r k P n u0 u1 fr a b fl ce = (M, false, K, 0) := (if_neg h1).trans (if_pos h3)
        rw [e]
      · have e : mStep false M K r k P n u0 u1 fr a b fl ce = mCont (mBegM M n) (mBegK M K r n P u0 u1) r P a b fl ce := (if_neg h1).trans (if_neg h3)
        rw [e] at h ⊢
        rw [mCont_r _ _ _ _ _ _ _ _ h]
        simp [mBegM, upd]
theorem jcgE_r {z : Bool} {ad : Nat → Nat} {r r2 : Nat} (h : z = true → r = r2) : jcgE z ad r = jcgE z ad r2 := by
  cases z with
  | true => rw [h rfl]
  | false => rfl
set_option maxRecDepth 100000 in
theorem k_X10_takeSample_u (l : Launch) (t : Nat → ClassId) (hfl : l.stackTraces = false) (h0 : Nat) (x1 : Nat) (x2 : Nat) (x3 : Nat) (x4 : Nat) (x5 : Nat) (x6 : Nat) (ci : Nat) (y1 : Nat) (y2 : Nat) (y3 : Nat) (ca : Nat) (g1 : Nat) (g2 : Nat) (fl : Nat → Int32) (ce : Nat → Int32) (ad : Nat → Nat) (S : JS) (a : Int32) (b : Int32) (hci : ci = 1 ∨ ci = 6 ∨ ci = 7 ∨ ci = 8) (hI : sInv S) (hn : S.2.2.1 < 1000000) : jKx l t yX10_takeSample (Cond.code yX10_takeSample cX10_takeSample 5 (some .boolean) :: jWS) { frames := 3, cells := 0, slots := 0, locals := 68 } [.ref h0, .int a, .int b] ([(h0, .inr (9, [.ref x1, .ref x2, .ref x3, .ref x4, .ref x5, .ref x6, .int S.1])), (x6, .inr (ci, jcond ci S.2.1)), (x1, .inr (3, [.ref y1, .int (nI S.2.2.1)])), (y1, .inl (t 1, 2, .inr (.inr (.inr (.inr (jr2 y2 y3)))))), (y2, .inl (t 0, 16, .inl S.2.2.2.1)), (y3, .inl (t 0, 16, .inl S.2.2.2.2.1)), (x2, .inr (5, jmem S.2.2.2.2.2.1 ca (jcgE S.2.2.2.2.2.2.1 ad (S.2.2.2.2.2.1 1).toNatClampNeg))), (ca, .inl (t 2, 8, .inr (.inr (.inr (.inr (jcaps ad)))))), (x3, .inr (4, [.ref g1, .ref g2])), (g1, .inl (t 0, 49, .inl fl)), (g2, .inl (t 0, 49, .inl ce))] ++ jpool t ad S.2.2.2.2.2.2.2) (fun vv uu => (vv = some (.int ((sStep ci fl ce S a b).2)) ∧ uu = ([(h0, .inr (9, [.ref x1, .ref x2, .ref x3, .ref x4, .ref x5, .ref x6, .int ((sStep ci fl ce S a b).1.1)])), (x6, .inr (ci, jcond ci ((sStep ci fl ce S a b).1.2.1))), (x1, .inr (3, [.ref y1, .int (nI ((sStep ci fl ce S a b).1.2.2.1))])), (y1, .inl (t 1, 2, .inr (.inr (.inr (.inr (jr2 y2 y3)))))), (y2, .inl (t 0, 16, .inl ((sStep ci fl ce S a b).1.2.2.2.1))), (y3, .inl (t 0, 16, .inl ((sStep ci fl ce S a b).1.2.2.2.2.1))), (x2, .inr (5, jmem ((sStep ci fl ce S a b).1.2.2.2.2.2.1) ca (jcgE (sStep ci fl ce S a b).1.2.2.2.2.2.2.1 ad ((sStep ci fl ce S a b).1.2.2.2.2.2.1 1).toNatClampNeg))), (ca, .inl (t 2, 8, .inr (.inr (.inr (.inr (jcaps ad)))))), (x3, .inr (4, [.ref g1, .ref g2])), (g1, .inl (t 0, 49, .inl fl)), (g2, .inl (t 0, 49, .inl ce))] ++ jpool t ad ((sStep ci fl ce S a b).1.2.2.2.2.2.2.2)))) (fun _ _ => False) := by
  obtain ⟨fi, G, n, u0, u1, M, f, K⟩ := S
  obtain ⟨r, P, q, hM1, hr8, hM4, hP, h5, hq, hc⟩ := hI
  dsimp only at hM1 hM4 hn hc
  have er : (M 1).toNatClampNeg = r := by rw [hM1, nI_tn (by omega)]
  have eP : (M 4).toNatClampNeg = P := by rw [hM4, nI_tn (by omega)]
  subst er eP
  cases f with
  | true =>
    obtain ⟨hr, w, k, hk, hkw, hw⟩ := hc rfl
    have hk2 := hk.2
    have ek : (K (M 1).toNatClampNeg).2.2.1.toNatClampNeg = k := by rw [hk2, nI_tn (by omega)]
    subst ek
    have h9 := k_X10_takeSample_c l t hfl h0 x1 x2 x3 x4 x5 x6 fi ci G y1 y2 y3 n u0 u1 M ca g1 g2 fl ce ad K ((M 1).toNatClampNeg) ((K (M 1).toNatClampNeg).2.2.1.toNatClampNeg) a b hci hM1 hr hk2 (by omega) hn
    rw [show mStep true M K (M 1).toNatClampNeg (K (M 1).toNatClampNeg).2.2.1.toNatClampNeg 0 n u0 u1 (cR ci G (nI n) a b) a b fl ce = mStep true M K (M 1).toNatClampNeg (K (M 1).toNatClampNeg).2.2.1.toNatClampNeg (M 4).toNatClampNeg n u0 u1 (cR ci G (nI n) a b) a b fl ce from rfl] at h9
    rw [jcgE_r (r2 := ((mStep true M K (M 1).toNatClampNeg (K (M 1).toNatClampNeg).2.2.1.toNatClampNeg (M 4).toNatClampNeg n u0 u1 (cR ci G (nI n) a b) a b fl ce).1 1).toNatClampNeg) (fun h => by rw [mStep_r _ _ _ _ _ _ _ _ _ _ _ _ _ _ h])] at h9
    exact h9
  | false =>
    have h9 := k_X10_takeSample l t hfl h0 x1 x2 x3 x4 x5 x6 fi ci G y1 y2 y3 n u0 u1 M ca g1 g2 fl ce ad K ((M 1).toNatClampNeg) ((M 4).toNatClampNeg) a b hci hM1 hr8 hM4 hP hn
    rw [show mStep false M K (M 1).toNatClampNeg 0 (M 4).toNatClampNeg n u0 u1 (cR ci G (nI n) a b) a b fl ce = mStep false M K (M 1).toNatClampNeg (K (M 1).toNatClampNeg).2.2.1.toNatClampNeg (M 4).toNatClampNeg n u0 u1 (cR ci G (nI n) a b) a b fl ce from rfl] at h9
    rw [jcgE_r (r2 := ((mStep false M K (M 1).toNatClampNeg (K (M 1).toNatClampNeg).2.2.1.toNatClampNeg (M 4).toNatClampNeg n u0 u1 (cR ci G (nI n) a b) a b fl ce).1 1).toNatClampNeg) (fun h => by rw [mStep_r _ _ _ _ _ _ _ _ _ _ _ _ _ _ h])] at h9
    exact h9
set_option maxHeartbeats 8000000 in
set_option maxRecDepth 100000 in
theorem k_X10_takeRamp (l : Launch) (t : Nat → ClassId) (hfl : l.stackTraces = false) (h0 : Nat) (x1 : Nat) (x2 : Nat) (x3 : Nat) (x4 : Nat) (x5 : Nat) (x6 : Nat) (ci : Nat) (y1 : Nat) (y2 : Nat) (y3 : Nat) (ca : Nat) (g1 : Nat) (g2 : Nat) (fl : Nat → Int32) (ce : Nat → Int32) (ad : Nat → Nat) (S : JS) (a : Int32) (b : Int32) (da : Int32) (db : Int32) (cnt : Nat) (hci : ci = 1 ∨ ci = 6 ∨ ci = 7 ∨ ci = 8) (hI : sInv S) (hc : cnt ≤ 50) (hn : S.2.2.1 + cnt < 1000000) : jKx l t yX10_takeRamp (Cond.code yX10_takeRamp cX10_takeRamp 10 (some .int) :: jWS) { frames := 4, cells := 0, slots := 0, locals := 92 } [.ref h0, .int a, .int b, .int da, .int db, .int (nI cnt)] ([(h0, .inr (9, [.ref x1, .ref x2, .ref x3, .ref x4, .ref x5, .ref x6, .int S.1])), (x6, .inr (ci, jcond ci S.2.1)), (x1, .inr (3, [.ref y1, .int (nI S.2.2.1)])), (y1, .inl (t 1, 2, .inr (.inr (.inr (.inr (jr2 y2 y3)))))), (y2, .inl (t 0, 16, .inl S.2.2.2.1)), (y3, .inl (t 0, 16, .inl S.2.2.2.2.1)), (x2, .inr (5, jmem S.2.2.2.2.2.1 ca (jcgE S.2.2.2.2.2.2.1 ad (S.2.2.2.2.2.1 1).toNatClampNeg))), (ca, .inl (t 2, 8, .inr (.inr (.inr (.inr (jcaps ad)))))), (x3, .inr (4, [.ref g1, .ref g2])), (g1, .inl (t 0, 49, .inl fl)), (g2, .inl (t 0, 49, .inl ce))] ++ jpool t ad S.2.2.2.2.2.2.2) (fun vv uu => (vv = some (.int (nI (sRun ci fl ce S a b da db cnt).2)) ∧ uu = ([(h0, .inr (9, [.ref x1, .ref x2, .ref x3, .ref x4, .ref x5, .ref x6, .int ((sRun ci fl ce S a b da db cnt).1.1)])), (x6, .inr (ci, jcond ci ((sRun ci fl ce S a b da db cnt).1.2.1))), (x1, .inr (3, [.ref y1, .int (nI ((sRun ci fl ce S a b da db cnt).1.2.2.1))])), (y1, .inl (t 1, 2, .inr (.inr (.inr (.inr (jr2 y2 y3)))))), (y2, .inl (t 0, 16, .inl ((sRun ci fl ce S a b da db cnt).1.2.2.2.1))), (y3, .inl (t 0, 16, .inl ((sRun ci fl ce S a b da db cnt).1.2.2.2.2.1))), (x2, .inr (5, jmem ((sRun ci fl ce S a b da db cnt).1.2.2.2.2.2.1) ca (jcgE (sRun ci fl ce S a b da db cnt).1.2.2.2.2.2.2.1 ad ((sRun ci fl ce S a b da db cnt).1.2.2.2.2.2.1 1).toNatClampNeg))), (ca, .inl (t 2, 8, .inr (.inr (.inr (.inr (jcaps ad)))))), (x3, .inr (4, [.ref g1, .ref g2])), (g1, .inl (t 0, 49, .inl fl)), (g2, .inl (t 0, 49, .inl ce))] ++ jpool t ad ((sRun ci fl ce S a b da db cnt).1.2.2.2.2.2.2.2)))) (fun _ _ => False) := by
  refine jK_of hfl (by decide +kernel) (Nat.le_of_ble_eq_true rfl) ?_
  intro p e s m args below meth c D A Q CC MM
  refine jr_norm0 [(0, .ref h0), (1, .int a), (2, .int b), (3, .int da), (4, .int db), (5, .int (nI cnt))] rfl ?_
  refine jr_iconst (v := 0) CC (jd ddX10_takeRamp 0 rfl) (by decide) ?_
  refine jr_istore [(6, .int 0), (0, .ref h0), (1, .int a), (2, .int b), (3, .int da), (4, .int db), (5, .int (nI cnt))] CC (jd ddX10_takeRamp 1 rfl) (by decide) rfl ?_
  refine jr_iconst (v := 0) CC (jd ddX10_takeRamp 2 rfl) (by decide) ?_
  refine jr_istore [(7, .int 0), (6, .int 0), (0, .ref h0), (1, .int a), (2, .int b), (3, .int da), (4, .int db), (5, .int (nI cnt))] CC (jd ddX10_takeRamp 3 rfl) (by decide) rfl ?_
  have hL1 : ∀ (d9 : Nat) (i : Nat) (hi : i ≤ cnt), cnt - i < d9 → J p l e { frames := 4, cells := 0, slots := 0, locals := 92 } s m args below meth c D A 10 Q ([(h0, .inr (9, [.ref x1, .ref x2, .ref x3, .ref x4, .ref x5, .ref x6, .int ((sRun ci fl ce S a b da db i).1.1)])), (x6, .inr (ci, jcond ci ((sRun ci fl ce S a b da db i).1.2.1))), (x1, .inr (3, [.ref y1, .int (nI ((sRun ci fl ce S a b da db i).1.2.2.1))])), (y1, .inl (t 1, 2, .inr (.inr (.inr (.inr (jr2 y2 y3)))))), (y2, .inl (t 0, 16, .inl ((sRun ci fl ce S a b da db i).1.2.2.2.1))), (y3, .inl (t 0, 16, .inl ((sRun ci fl ce S a b da db i).1.2.2.2.2.1))), (x2, .inr (5, jmem ((sRun ci fl ce S a b da db i).1.2.2.2.2.2.1) ca (jcgE (sRun ci fl ce S a b da db i).1.2.2.2.2.2.2.1 ad ((sRun ci fl ce S a b da db i).1.2.2.2.2.2.1 1).toNatClampNeg))), (ca, .inl (t 2, 8, .inr (.inr (.inr (.inr (jcaps ad)))))), (x3, .inr (4, [.ref g1, .ref g2])), (g1, .inl (t 0, 49, .inl fl)), (g2, .inl (t 0, 49, .inl ce))] ++ jpool t ad ((sRun ci fl ce S a b da db i).1.2.2.2.2.2.2.2)) [(0, .ref h0), (1, .int a), (2, .int b), (3, .int da), (4, .int db), (5, .int (nI cnt)), (6, .int (nI (sRun ci fl ce S a b da db i).2)), (7, .int (nI i))] 6 [] 0 0 := by
    intro d9
    induction d9 with
    | zero => intro i hi hmu; exact absurd hmu (Nat.not_lt_zero _)
    | succ d9 ih6 =>
      intro i hi hmu
      refine jr_iload CC (jd ddX10_takeRamp 4 rfl) 7 rfl ?_
      refine jr_iload CC (jd ddX10_takeRamp 5 rfl) 5 rfl ?_
      refine jr_icmp_ge 66 CC (jd ddX10_takeRamp 6 rfl) (by decide) (fun c2 => ?_) (fun c2 => ?_)
      · have n2 := jle_of (a := cnt) (b := i) c2 (by omega) (by omega)
        refine jr_iload CC (jd ddX10_takeRamp 35 rfl) 6 rfl ?_
        exact jr_iret CC MM (jd ddX10_takeRamp 36 rfl) rfl (by decide) (by decide) (by have e9 : i = cnt := (by omega); subst e9; exact ⟨rfl, rfl⟩)
      · have n2 := jle_not (a := cnt) (b := i) c2 (by omega) (by omega)
        refine jr_iload_n CC (jd ddX10_takeRamp 7 rfl) 1 rfl ?_
        refine jr_iload CC (jd ddX10_takeRamp 8 rfl) 7 rfl ?_
        refine jr_iload_n CC (jd ddX10_takeRamp 9 rfl) 3 rfl ?_
        refine jr_imul CC (jd ddX10_takeRamp 10 rfl) ?_
        refine jr_iadd CC (jd ddX10_takeRamp 11 rfl) ?_
        refine jr_i2l CC (jd ddX10_takeRamp 12 rfl) ?_
        refine jr_bipush (v := (-128)) CC (jd ddX10_takeRamp 13 rfl) (by decide) ?_
        refine jr_pc (pc' := 22) rfl ?_
        refine jr_bipush (v := 127) CC (jd ddX10_takeRamp 14 rfl) (by decide) ?_
        refine jr_callS (rest := []) [.long (Int32.toInt64 (a + ((nI i) * da))), .int (-128), .int 127] CC (jd ddX10_takeRamp 15 rfl) (jy_X10_114 CC) (k_X10_kept l t hfl (Int32.toInt64 (a + ((nI i) * da))) (-128) 127) [] rfl (by decide) rfl rfl (by decide) (Nat.le_of_ble_eq_true rfl) (by rintro v u h; rcases h with ⟨rfl, rfl⟩ <;> rfl) (fun _ _ h => h.elim) (fun _ _ h => h.elim) (fun v u h => ?_)
        rcases h with ⟨rfl, rfl⟩
        refine jr_ws (jput ([(h0, .inr (9, [.ref x1, .ref x2, .ref x3, .ref x4, .ref x5, .ref x6, .int ((sRun ci fl ce S a b da db i).1.1)])), (x6, .inr (ci, jcond ci ((sRun ci fl ce S a b da db i).1.2.1))), (x1, .inr (3, [.ref y1, .int (nI ((sRun ci fl ce S a b da db i).1.2.2.1))])), (y1, .inl (t 1, 2, .inr (.inr (.inr (.inr (jr2 y2 y3)))))), (y2, .inl (t 0, 16, .inl ((sRun ci fl ce S a b da db i).1.2.2.2.1))), (y3, .inl (t 0, 16, .inl ((sRun ci fl ce S a b da db i).1.2.2.2.2.1))), (x2, .inr (5, jmem ((sRun ci fl ce S a b da db i).1.2.2.2.2.2.1) ca (jcgE (sRun ci fl ce S a b da db i).1.2.2.2.2.2.2.1 ad ((sRun ci fl ce S a b da db i).1.2.2.2.2.2.1 1).toNatClampNeg))), (ca, .inl (t 2, 8, .inr (.inr (.inr (.inr (jcaps ad)))))), (x3, .inr (4, [.ref g1, .ref g2])), (g1, .inl (t 0, 49, .inl fl)), (g2, .inl (t 0, 49, .inl ce))] ++ jpool t ad ((sRun ci fl ce S a b da db i).1.2.2.2.2.2.2.2)) [] []) (jdrop_nil (by rfl)) ?_
        refine jr_norm ([(h0, .inr (9, [.ref x1, .ref x2, .ref x3, .ref x4, .ref x5, .ref x6, .int ((sRun ci fl ce S a b da db i).1.1)])), (x6, .inr (ci, jcond ci ((sRun ci fl ce S a b da db i).1.2.1))), (x1, .inr (3, [.ref y1, .int (nI ((sRun ci fl ce S a b da db i).1.2.2.1))])), (y1, .inl (t 1, 2, .inr (.inr (.inr (.inr (jr2 y2 y3)))))), (y2, .inl (t 0, 16, .inl ((sRun ci fl ce S a b da db i).1.2.2.2.1))), (y3, .inl (t 0, 16, .inl ((sRun ci fl ce S a b da db i).1.2.2.2.2.1))), (x2, .inr (5, jmem ((sRun ci fl ce S a b da db i).1.2.2.2.2.2.1) ca (jcgE (sRun ci fl ce S a b da db i).1.2.2.2.2.2.2.1 ad ((sRun ci fl ce S a b da db i).1.2.2.2.2.2.1 1).toNatClampNeg))), (ca, .inl (t 2, 8, .inr (.inr (.inr (.inr (jcaps ad)))))), (x3, .inr (4, [.ref g1, .ref g2])), (g1, .inl (t 0, 49, .inl fl)), (g2, .inl (t 0, 49, .inl ce))] ++ jpool t ad ((sRun ci fl ce S a b da db i).1.2.2.2.2.2.2.2)) [.int (jkept (Int32.toInt64 (a + ((nI i) * da))) (-128) 127)] 27 0 0 rfl rfl rfl rfl rfl ?_
        refine jr_istore [(8, .int (jkept (Int32.toInt64 (a + ((nI i) * da))) (-128) 127)), (0, .ref h0), (1, .int a), (2, .int b), (3, .int da), (4, .int db), (5, .int (nI cnt)), (6, .int (nI (sRun ci fl ce S a b da db i).2)), (7, .int (nI i))] CC (jd ddX10_takeRamp 16 rfl) (by decide) rfl ?_
        refine jr_iload_n CC (jd ddX10_takeRamp 17 rfl) 3 rfl ?_
        refine jr_iload CC (jd ddX10_takeRamp 18 rfl) 8 rfl ?_
        refine jr_iload CC (jd ddX10_takeRamp 19 rfl) 5 rfl ?_
        refine jr_imul CC (jd ddX10_takeRamp 20 rfl) ?_
        refine jr_iadd CC (jd ddX10_takeRamp 21 rfl) ?_
        refine jr_i2l CC (jd ddX10_takeRamp 22 rfl) ?_
        refine jr_bipush (v := (-128)) CC (jd ddX10_takeRamp 23 rfl) (by decide) ?_
        refine jr_bipush (v := 127) CC (jd ddX10_takeRamp 24 rfl) (by decide) ?_
        refine jr_callS (rest := []) [.long (Int32.toInt64 (b + ((nI i) * db))), .int (-128), .int 127] CC (jd ddX10_takeRamp 25 rfl) (jy_X10_114 CC) (k_X10_kept l t hfl (Int32.toInt64 (b + ((nI i) * db))) (-128) 127) [] rfl (by decide) rfl rfl (by decide) (Nat.le_of_ble_eq_true rfl) (by rintro v u h; rcases h with ⟨rfl, rfl⟩ <;> rfl) (fun _ _ h => h.elim) (fun _ _ h => h.elim) (fun v u h => ?_)
        rcases h with ⟨rfl, rfl⟩
        refine jr_ws (jput ([(h0, .inr (9, [.ref x1, .ref x2, .ref x3, .ref x4, .ref x5, .ref x6, .int ((sRun ci fl ce S a b da db i).1.1)])), (x6, .inr (ci, jcond ci ((sRun ci fl ce S a b da db i).1.2.1))), (x1, .inr (3, [.ref y1, .int (nI ((sRun ci fl ce S a b da db i).1.2.2.1))])), (y1, .inl (t 1, 2, .inr (.inr (.inr (.inr (jr2 y2 y3)))))), (y2, .inl (t 0, 16, .inl ((sRun ci fl ce S a b da db i).1.2.2.2.1))), (y3, .inl (t 0, 16, .inl ((sRun ci fl ce S a b da db i).1.2.2.2.2.1))), (x2, .inr (5, jmem ((sRun ci fl ce S a b da db i).1.2.2.2.2.2.1) ca (jcgE (sRun ci fl ce S a b da db i).1.2.2.2.2.2.2.1 ad ((sRun ci fl ce S a b da db i).1.2.2.2.2.2.1 1).toNatClampNeg))), (ca, .inl (t 2, 8, .inr (.inr (.inr (.inr (jcaps ad)))))), (x3, .inr (4, [.ref g1, .ref g2])), (g1, .inl (t 0, 49, .inl fl)), (g2, .inl (t 0, 49, .inl ce))] ++ jpool t ad ((sRun ci fl ce S a b da db i).1.2.2.2.2.2.2.2)) [] []) (jdrop_nil (by rfl)) ?_
        refine jr_norm ([(h0, .inr (9, [.ref x1, .ref x2, .ref x3, .ref x4, .ref x5, .ref x6, .int ((sRun ci fl ce S a b da db i).1.1)])), (x6, .inr (ci, jcond ci ((sRun ci fl ce S a b da db i).1.2.1))), (x1, .inr (3, [.ref y1, .int (nI ((sRun ci fl ce S a b da db i).1.2.2.1))])), (y1, .inl (t 1, 2, .inr (.inr (.inr (.inr (jr2 y2 y3)))))), (y2, .inl (t 0, 16, .inl ((sRun ci fl ce S a b da db i).1.2.2.2.1))), (y3, .inl (t 0, 16, .inl ((sRun ci fl ce S a b da db i).1.2.2.2.2.1))), (x2, .inr (5, jmem ((sRun ci fl ce S a b da db i).1.2.2.2.2.2.1) ca (jcgE (sRun ci fl ce S a b da db i).1.2.2.2.2.2.2.1 ad ((sRun ci fl ce S a b da db i).1.2.2.2.2.2.1 1).toNatClampNeg))), (ca, .inl (t 2, 8, .inr (.inr (.inr (.inr (jcaps ad)))))), (x3, .inr (4, [.ref g1, .ref g2])), (g1, .inl (t 0, 49, .inl fl)), (g2, .inl (t 0, 49, .inl ce))] ++ jpool t ad ((sRun ci fl ce S a b da db i).1.2.2.2.2.2.2.2)) [.int (jkept (Int32.toInt64 (b + ((nI i) * db))) (-128) 127)] 44 0 0 rfl rfl rfl rfl rfl ?_
        refine jr_istore [(9, .int (jkept (Int32.toInt64 (b + ((nI i) * db))) (-128) 127)), (8, .int (jkept (Int32.toInt64 (a + ((nI i) * da))) (-128) 127)), (0, .ref h0), (1, .int a), (2, .int b), (3, .int da), (4, .int db), (5, .int (nI cnt)), (6, .int (nI (sRun ci fl ce S a b da db i).2)), (7, .int (nI i))] CC (jd ddX10_takeRamp 26 rfl) (by decide) rfl ?_
        refine jr_aload_n CC (jd ddX10_takeRamp 27 rfl) 2 rfl ?_
        refine jr_iload CC (jd ddX10_takeRamp 28 rfl) 1 rfl ?_
        refine jr_iload CC (jd ddX10_takeRamp 29 rfl) 0 rfl ?_
        refine jr_norm ([(h0, .inr (9, [.ref x1, .ref x2, .ref x3, .ref x4, .ref x5, .ref x6, .int ((sRun ci fl ce S a b da db i).1.1)])), (x6, .inr (ci, jcond ci ((sRun ci fl ce S a b da db i).1.2.1))), (x1, .inr (3, [.ref y1, .int (nI ((sRun ci fl ce S a b da db i).1.2.2.1))])), (y1, .inl (t 1, 2, .inr (.inr (.inr (.inr (jr2 y2 y3)))))), (y2, .inl (t 0, 16, .inl ((sRun ci fl ce S a b da db i).1.2.2.2.1))), (y3, .inl (t 0, 16, .inl ((sRun ci fl ce S a b da db i).1.2.2.2.2.1))), (x2, .inr (5, jmem ((sRun ci fl ce S a b da db i).1.2.2.2.2.2.1) ca (jcgE (sRun ci fl ce S a b da db i).1.2.2.2.2.2.2.1 ad ((sRun ci fl ce S a b da db i).1.2.2.2.2.2.1 1).toNatClampNeg))), (ca, .inl (t 2, 8, .inr (.inr (.inr (.inr (jcaps ad)))))), (x3, .inr (4, [.ref g1, .ref g2])), (g1, .inl (t 0, 49, .inl fl)), (g2, .inl (t 0, 49, .inl ce))] ++ jpool t ad ((sRun ci fl ce S a b da db i).1.2.2.2.2.2.2.2)) [.int (jkept (Int32.toInt64 (b + ((nI i) * db))) (-128) 127), .int (jkept (Int32.toInt64 (a + ((nI i) * da))) (-128) 127), .ref h0] 51 0 0 rfl rfl rfl rfl rfl ?_
        refine jr_callV (q0 := 0) (rest := []) [.int (jkept (Int32.toInt64 (a + ((nI i) * da))) (-128) 127), .int (jkept (Int32.toInt64 (b + ((nI i) * db))) (-128) 127)] CC (jd ddX10_takeRamp 30 rfl) (jy_X10_118 CC) (k_X10_takeSample_u l t hfl h0 x1 x2 x3 x4 x5 x6 ci y1 y2 y3 ca g1 g2 fl ce ad ((sRun ci fl ce S a b da db i).1) (jkept (Int32.toInt64 (a + ((nI i) * da))) (-128) 127) (jkept (Int32.toInt64 (b + ((nI i) * db))) (-128) 127) hci (sRun_inv hI i (by omega)) (by rw [sRun_n]; omega)) ([0, 1, 2, 3, 4, 5, 6, 7, 8, 9, 10] ++ (List.range 32).map (fun i => 11 + i)) (jpool_isC 11 rfl (is := [0, 1, 2, 3, 4, 5, 6, 7, 8, 9, 10]) rfl (by decide)) (by decide) rfl rfl rfl rfl (by decide) (Nat.le_of_ble_eq_true rfl) (by rintro v u h; rcases h with ⟨rfl, rfl⟩ <;> exact jpool_same rfl) (fun _ _ h => h.elim) (fun _ _ h => h.elim) (fun v u h => ?_)
        rcases h with ⟨rfl, rfl⟩
        refine jr_ws (jput [(h0, .inr (9, [.ref x1, .ref x2, .ref x3, .ref x4, .ref x5, .ref x6, .int ((sRun ci fl ce S a b da db i).1.1)])), (x6, .inr (ci, jcond ci ((sRun ci fl ce S a b da db i).1.2.1))), (x1, .inr (3, [.ref y1, .int (nI ((sRun ci fl ce S a b da db i).1.2.2.1))])), (y1, .inl (t 1, 2, .inr (.inr (.inr (.inr (jr2 y2 y3)))))), (y2, .inl (t 0, 16, .inl ((sRun ci fl ce S a b da db i).1.2.2.2.1))), (y3, .inl (t 0, 16, .inl ((sRun ci fl ce S a b da db i).1.2.2.2.2.1))), (x2, .inr (5, jmem ((sRun ci fl ce S a b da db i).1.2.2.2.2.2.1) ca (jcgE (sRun ci fl ce S a b da db i).1.2.2.2.2.2.2.1 ad ((sRun ci fl ce S a b da db i).1.2.2.2.2.2.1 1).toNatClampNeg))), (ca, .inl (t 2, 8, .inr (.inr (.inr (.inr (jcaps ad)))))), (x3, .inr (4, [.ref g1, .ref g2])), (g1, .inl (t 0, 49, .inl fl)), (g2, .inl (t 0, 49, .inl ce))] [0, 1, 2, 3, 4, 5, 6, 7, 8, 9, 10] [(h0, .inr (9, [.ref x1, .ref x2, .ref x3, .ref x4, .ref x5, .ref x6, .int ((sStep ci fl ce ((sRun ci fl ce S a b da db i).1) (jkept (Int32.toInt64 (a + ((nI i) * da))) (-128) 127) (jkept (Int32.toInt64 (b + ((nI i) * db))) (-128) 127)).1.1)])), (x6, .inr (ci, jcond ci ((sStep ci fl ce ((sRun ci fl ce S a b da db i).1) (jkept (Int32.toInt64 (a + ((nI i) * da))) (-128) 127) (jkept (Int32.toInt64 (b + ((nI i) * db))) (-128) 127)).1.2.1))), (x1, .inr (3, [.ref y1, .int (nI ((sStep ci fl ce ((sRun ci fl ce S a b da db i).1) (jkept (Int32.toInt64 (a + ((nI i) * da))) (-128) 127) (jkept (Int32.toInt64 (b + ((nI i) * db))) (-128) 127)).1.2.2.1))])), (y1, .inl (t 1, 2, .inr (.inr (.inr (.inr (jr2 y2 y3)))))), (y2, .inl (t 0, 16, .inl ((sStep ci fl ce ((sRun ci fl ce S a b da db i).1) (jkept (Int32.toInt64 (a + ((nI i) * da))) (-128) 127) (jkept (Int32.toInt64 (b + ((nI i) * db))) (-128) 127)).1.2.2.2.1))), (y3, .inl (t 0, 16, .inl ((sStep ci fl ce ((sRun ci fl ce S a b da db i).1) (jkept (Int32.toInt64 (a + ((nI i) * da))) (-128) 127) (jkept (Int32.toInt64 (b + ((nI i) * db))) (-128) 127)).1.2.2.2.2.1))), (x2, .inr (5, jmem ((sStep ci fl ce ((sRun ci fl ce S a b da db i).1) (jkept (Int32.toInt64 (a + ((nI i) * da))) (-128) 127) (jkept (Int32.toInt64 (b + ((nI i) * db))) (-128) 127)).1.2.2.2.2.2.1) ca (jcgE (sStep ci fl ce ((sRun ci fl ce S a b da db i).1) (jkept (Int32.toInt64 (a + ((nI i) * da))) (-128) 127) (jkept (Int32.toInt64 (b + ((nI i) * db))) (-128) 127)).1.2.2.2.2.2.2.1 ad ((sStep ci fl ce ((sRun ci fl ce S a b da db i).1) (jkept (Int32.toInt64 (a + ((nI i) * da))) (-128) 127) (jkept (Int32.toInt64 (b + ((nI i) * db))) (-128) 127)).1.2.2.2.2.2.1 1).toNatClampNeg))), (ca, .inl (t 2, 8, .inr (.inr (.inr (.inr (jcaps ad)))))), (x3, .inr (4, [.ref g1, .ref g2])), (g1, .inl (t 0, 49, .inl fl)), (g2, .inl (t 0, 49, .inl ce))] ++ jpool t ad ((sStep ci fl ce ((sRun ci fl ce S a b da db i).1) (jkept (Int32.toInt64 (a + ((nI i) * da))) (-128) 127) (jkept (Int32.toInt64 (b + ((nI i) * db))) (-128) 127)).1.2.2.2.2.2.2.2)) (jpool_after 11 rfl rfl rfl (by decide)) ?_
        refine jr_norm ([(h0, .inr (9, [.ref x1, .ref x2, .ref x3, .ref x4, .ref x5, .ref x6, .int ((sStep ci fl ce ((sRun ci fl ce S a b da db i).1) (jkept (Int32.toInt64 (a + ((nI i) * da))) (-128) 127) (jkept (Int32.toInt64 (b + ((nI i) * db))) (-128) 127)).1.1)])), (x6, .inr (ci, jcond ci ((sStep ci fl ce ((sRun ci fl ce S a b da db i).1) (jkept (Int32.toInt64 (a + ((nI i) * da))) (-128) 127) (jkept (Int32.toInt64 (b + ((nI i) * db))) (-128) 127)).1.2.1))), (x1, .inr (3, [.ref y1, .int (nI ((sStep ci fl ce ((sRun ci fl ce S a b da db i).1) (jkept (Int32.toInt64 (a + ((nI i) * da))) (-128) 127) (jkept (Int32.toInt64 (b + ((nI i) * db))) (-128) 127)).1.2.2.1))])), (y1, .inl (t 1, 2, .inr (.inr (.inr (.inr (jr2 y2 y3)))))), (y2, .inl (t 0, 16, .inl ((sStep ci fl ce ((sRun ci fl ce S a b da db i).1) (jkept (Int32.toInt64 (a + ((nI i) * da))) (-128) 127) (jkept (Int32.toInt64 (b + ((nI i) * db))) (-128) 127)).1.2.2.2.1))), (y3, .inl (t 0, 16, .inl ((sStep ci fl ce ((sRun ci fl ce S a b da db i).1) (jkept (Int32.toInt64 (a + ((nI i) * da))) (-128) 127) (jkept (Int32.toInt64 (b + ((nI i) * db))) (-128) 127)).1.2.2.2.2.1))), (x2, .inr (5, jmem ((sStep ci fl ce ((sRun ci fl ce S a b da db i).1) (jkept (Int32.toInt64 (a + ((nI i) * da))) (-128) 127) (jkept (Int32.toInt64 (b + ((nI i) * db))) (-128) 127)).1.2.2.2.2.2.1) ca (jcgE (sStep ci fl ce ((sRun ci fl ce S a b da db i).1) (jkept (Int32.toInt64 (a + ((nI i) * da))) (-128) 127) (jkept (Int32.toInt64 (b + ((nI i) * db))) (-128) 127)).1.2.2.2.2.2.2.1 ad ((sStep ci fl ce ((sRun ci fl ce S a b da db i).1) (jkept (Int32.toInt64 (a + ((nI i) * da))) (-128) 127) (jkept (Int32.toInt64 (b + ((nI i) * db))) (-128) 127)).1.2.2.2.2.2.1 1).toNatClampNeg))), (ca, .inl (t 2, 8, .inr (.inr (.inr (.inr (jcaps ad)))))), (x3, .inr (4, [.ref g1, .ref g2])), (g1, .inl (t 0, 49, .inl fl)), (g2, .inl (t 0, 49, .inl ce))] ++ jpool t ad ((sStep ci fl ce ((sRun ci fl ce S a b da db i).1) (jkept (Int32.toInt64 (a + ((nI i) * da))) (-128) 127) (jkept (Int32.toInt64 (b + ((nI i) * db))) (-128) 127)).1.2.2.2.2.2.2.2)) [.int ((sStep ci fl ce ((sRun ci fl ce S a b da db i).1) (jkept (Int32.toInt64 (a + ((nI i) * da))) (-128) 127) (jkept (Int32.toInt64 (b + ((nI i) * db))) (-128) 127)).2)] 54 0 0 rfl rfl rfl rfl rfl ?_
        refine jr_if_eq 60 CC (jd ddX10_takeRamp 31 rfl) (by decide) (fun c3 => ?_) (fun c3 => ?_)
        · refine jr_iinc [(7, .int (nI (i + 1))), (9, .int (jkept (Int32.toInt64 (b + ((nI i) * db))) (-128) 127)), (8, .int (jkept (Int32.toInt64 (a + ((nI i) * da))) (-128) 127)), (0, .ref h0), (1, .int a), (2, .int b), (3, .int da), (4, .int db), (5, .int (nI cnt)), (6, .int (nI (sRun ci fl ce S a b da db i).2))] CC (jd ddX10_takeRamp 33 rfl) 9 rfl (nI_1 _) (by decide) rfl ?_
          refine jr_goto 6 CC (jd ddX10_takeRamp 34 rfl) (by decide) ?_
          refine jr_ws ([(h0, .inr (9, [.ref x1, .ref x2, .ref x3, .ref x4, .ref x5, .ref x6, .int ((sRun ci fl ce S a b da db (i + 1)).1.1)])), (x6, .inr (ci, jcond ci ((sRun ci fl ce S a b da db (i + 1)).1.2.1))), (x1, .inr (3, [.ref y1, .int (nI ((sRun ci fl ce S a b da db (i + 1)).1.2.2.1))])), (y1, .inl (t 1, 2, .inr (.inr (.inr (.inr (jr2 y2 y3)))))), (y2, .inl (t 0, 16, .inl ((sRun ci fl ce S a b da db (i + 1)).1.2.2.2.1))), (y3, .inl (t 0, 16, .inl ((sRun ci fl ce S a b da db (i + 1)).1.2.2.2.2.1))), (x2, .inr (5, jmem ((sRun ci fl ce S a b da db (i + 1)).1.2.2.2.2.2.1) ca (jcgE (sRun ci fl ce S a b da db (i + 1)).1.2.2.2.2.2.2.1 ad ((sRun ci fl ce S a b da db (i + 1)).1.2.2.2.2.2.1 1).toNatClampNeg))), (ca, .inl (t 2, 8, .inr (.inr (.inr (.inr (jcaps ad)))))), (x3, .inr (4, [.ref g1, .ref g2])), (g1, .inl (t 0, 49, .inl fl)), (g2, .inl (t 0, 49, .inl ce))] ++ jpool t ad ((sRun ci fl ce S a b da db (i + 1)).1.2.2.2.2.2.2.2)) rfl ?_
          refine jr_norm0 [(7, .int (nI (i + 1))), (9, .int (jkept (Int32.toInt64 (b + ((nI i) * db))) (-128) 127)), (8, .int (jkept (Int32.toInt64 (a + ((nI i) * da))) (-128) 127)), (0, .ref h0), (1, .int a), (2, .int b), (3, .int da), (4, .int db), (5, .int (nI cnt)), (6, .int (nI (sRun ci fl ce S a b da db (i + 1)).2))] (by rw [sRun]; dsimp only; rw [if_pos c3]) ?_
          refine jr_norm ([(h0, .inr (9, [.ref x1, .ref x2, .ref x3, .ref x4, .ref x5, .ref x6, .int ((sRun ci fl ce S a b da db (i + 1)).1.1)])), (x6, .inr (ci, jcond ci ((sRun ci fl ce S a b da db (i + 1)).1.2.1))), (x1, .inr (3, [.ref y1, .int (nI ((sRun ci fl ce S a b da db (i + 1)).1.2.2.1))])), (y1, .inl (t 1, 2, .inr (.inr (.inr (.inr (jr2 y2 y3)))))), (y2, .inl (t 0, 16, .inl ((sRun ci fl ce S a b da db (i + 1)).1.2.2.2.1))), (y3, .inl (t 0, 16, .inl ((sRun ci fl ce S a b da db (i + 1)).1.2.2.2.2.1))), (x2, .inr (5, jmem ((sRun ci fl ce S a b da db (i + 1)).1.2.2.2.2.2.1) ca (jcgE (sRun ci fl ce S a b da db (i + 1)).1.2.2.2.2.2.2.1 ad ((sRun ci fl ce S a b da db (i + 1)).1.2.2.2.2.2.1 1).toNatClampNeg))), (ca, .inl (t 2, 8, .inr (.inr (.inr (.inr (jcaps ad)))))), (x3, .inr (4, [.ref g1, .ref g2])), (g1, .inl (t 0, 49, .inl fl)), (g2, .inl (t 0, 49, .inl ce))] ++ jpool t ad ((sRun ci fl ce S a b da db (i + 1)).1.2.2.2.2.2.2.2)) [] 6 0 0 rfl rfl rfl rfl rfl ?_
          refine jr_lv [3, 4, 5, 6, 7, 8, 9, 0] [(0, .ref h0), (1, .int a), (2, .int b), (3, .int da), (4, .int db), (5, .int (nI cnt)), (6, .int (nI (sRun ci fl ce S a b da db (i + 1)).2)), (7, .int (nI (i + 1)))] rfl ?_
          exact ih6 (i + 1) (by omega) (by omega)
        · refine jr_iinc [(6, .int (nI ((sRun ci fl ce S a b da db i).2 + 1))), (9, .int (jkept (Int32.toInt64 (b + ((nI i) * db))) (-128) 127)), (8, .int (jkept (Int32.toInt64 (a + ((nI i) * da))) (-128) 127)), (0, .ref h0), (1, .int a), (2, .int b), (3, .int da), (4, .int db), (5, .int (nI cnt)), (7, .int (nI i))] CC (jd ddX10_takeRamp 32 rfl) 8 rfl (nI_1 _) (by decide) rfl ?_
          refine jr_iinc [(7, .int (nI (i + 1))), (6, .int (nI ((sRun ci fl ce S a b da db i).2 + 1))), (9, .int (jkept (Int32.toInt64 (b + ((nI i) * db))) (-128) 127)), (8, .int (jkept (Int32.toInt64 (a + ((nI i) * da))) (-128) 127)), (0, .ref h0), (1, .int a), (2, .int b), (3, .int da), (4, .int db), (5, .int (nI cnt))] CC (jd ddX10_takeRamp 33 rfl) 9 rfl (nI_1 _) (by decide) rfl ?_
          refine jr_goto 6 CC (jd ddX10_takeRamp 34 rfl) (by decide) ?_
          refine jr_ws ([(h0, .inr (9, [.ref x1, .ref x2, .ref x3, .ref x4, .ref x5, .ref x6, .int ((sRun ci fl ce S a b da db (i + 1)).1.1)])), (x6, .inr (ci, jcond ci ((sRun ci fl ce S a b da db (i + 1)).1.2.1))), (x1, .inr (3, [.ref y1, .int (nI ((sRun ci fl ce S a b da db (i + 1)).1.2.2.1))])), (y1, .inl (t 1, 2, .inr (.inr (.inr (.inr (jr2 y2 y3)))))), (y2, .inl (t 0, 16, .inl ((sRun ci fl ce S a b da db (i + 1)).1.2.2.2.1))), (y3, .inl (t 0, 16, .inl ((sRun ci fl ce S a b da db (i + 1)).1.2.2.2.2.1))), (x2, .inr (5, jmem ((sRun ci fl ce S a b da db (i + 1)).1.2.2.2.2.2.1) ca (jcgE (sRun ci fl ce S a b da db (i + 1)).1.2.2.2.2.2.2.1 ad ((sRun ci fl ce S a b da db (i + 1)).1.2.2.2.2.2.1 1).toNatClampNeg))), (ca, .inl (t 2, 8, .inr (.inr (.inr (.inr (jcaps ad)))))), (x3, .inr (4, [.ref g1, .ref g2])), (g1, .inl (t 0, 49, .inl fl)), (g2, .inl (t 0, 49, .inl ce))] ++ jpool t ad ((sRun ci fl ce S a b da db (i + 1)).1.2.2.2.2.2.2.2)) rfl ?_
          refine jr_norm0 [(7, .int (nI (i + 1))), (6, .int (nI (sRun ci fl ce S a b da db (i + 1)).2)), (9, .int (jkept (Int32.toInt64 (b + ((nI i) * db))) (-128) 127)), (8, .int (jkept (Int32.toInt64 (a + ((nI i) * da))) (-128) 127)), (0, .ref h0), (1, .int a), (2, .int b), (3, .int da), (4, .int db), (5, .int (nI cnt))] (by rw [sRun]; dsimp only; rw [if_neg c3]) ?_
          refine jr_norm ([(h0, .inr (9, [.ref x1, .ref x2, .ref x3, .ref x4, .ref x5, .ref x6, .int ((sRun ci fl ce S a b da db (i + 1)).1.1)])), (x6, .inr (ci, jcond ci ((sRun ci fl ce S a b da db (i + 1)).1.2.1))), (x1, .inr (3, [.ref y1, .int (nI ((sRun ci fl ce S a b da db (i + 1)).1.2.2.1))])), (y1, .inl (t 1, 2, .inr (.inr (.inr (.inr (jr2 y2 y3)))))), (y2, .inl (t 0, 16, .inl ((sRun ci fl ce S a b da db (i + 1)).1.2.2.2.1))), (y3, .inl (t 0, 16, .inl ((sRun ci fl ce S a b da db (i + 1)).1.2.2.2.2.1))), (x2, .inr (5, jmem ((sRun ci fl ce S a b da db (i + 1)).1.2.2.2.2.2.1) ca (jcgE (sRun ci fl ce S a b da db (i + 1)).1.2.2.2.2.2.2.1 ad ((sRun ci fl ce S a b da db (i + 1)).1.2.2.2.2.2.1 1).toNatClampNeg))), (ca, .inl (t 2, 8, .inr (.inr (.inr (.inr (jcaps ad)))))), (x3, .inr (4, [.ref g1, .ref g2])), (g1, .inl (t 0, 49, .inl fl)), (g2, .inl (t 0, 49, .inl ce))] ++ jpool t ad ((sRun ci fl ce S a b da db (i + 1)).1.2.2.2.2.2.2.2)) [] 6 0 0 rfl rfl rfl rfl rfl ?_
          refine jr_lv [4, 5, 6, 7, 8, 9, 1, 0] [(0, .ref h0), (1, .int a), (2, .int b), (3, .int da), (4, .int db), (5, .int (nI cnt)), (6, .int (nI (sRun ci fl ce S a b da db (i + 1)).2)), (7, .int (nI (i + 1)))] rfl ?_
          exact ih6 (i + 1) (by omega) (by omega)
  refine jr_norm ([(h0, .inr (9, [.ref x1, .ref x2, .ref x3, .ref x4, .ref x5, .ref x6, .int ((sRun ci fl ce S a b da db 0).1.1)])), (x6, .inr (ci, jcond ci ((sRun ci fl ce S a b da db 0).1.2.1))), (x1, .inr (3, [.ref y1, .int (nI ((sRun ci fl ce S a b da db 0).1.2.2.1))])), (y1, .inl (t 1, 2, .inr (.inr (.inr (.inr (jr2 y2 y3)))))), (y2, .inl (t 0, 16, .inl ((sRun ci fl ce S a b da db 0).1.2.2.2.1))), (y3, .inl (t 0, 16, .inl ((sRun ci fl ce S a b da db 0).1.2.2.2.2.1))), (x2, .inr (5, jmem ((sRun ci fl ce S a b da db 0).1.2.2.2.2.2.1) ca (jcgE (sRun ci fl ce S a b da db 0).1.2.2.2.2.2.2.1 ad ((sRun ci fl ce S a b da db 0).1.2.2.2.2.2.1 1).toNatClampNeg))), (ca, .inl (t 2, 8, .inr (.inr (.inr (.inr (jcaps ad)))))), (x3, .inr (4, [.ref g1, .ref g2])), (g1, .inl (t 0, 49, .inl fl)), (g2, .inl (t 0, 49, .inl ce))] ++ jpool t ad ((sRun ci fl ce S a b da db 0).1.2.2.2.2.2.2.2)) [] 6 0 0 rfl rfl rfl rfl rfl ?_
  refine jr_lv [2, 3, 4, 5, 6, 7, 1, 0] [(0, .ref h0), (1, .int a), (2, .int b), (3, .int da), (4, .int db), (5, .int (nI cnt)), (6, .int (nI (sRun ci fl ce S a b da db 0).2)), (7, .int (nI 0))] rfl ?_
  exact hL1 (cnt - 0 + 1) 0 (Nat.zero_le _) (Nat.lt_succ_self _)
