/-! a sample, both sides -/
def ringR (n : Nat) (u0 u1 F1 F2 : Nat → Int32) : Prop := ∀ z, z < n → n ≤ z + 16 → u0 (z % 16) = F1 (z % 64) ∧ u1 (z % 16) = F2 (z % 64)
/-- the class and the reference hold the same as samples come in -/
def runR (ci : Nat) (fi : Int32) (G : Nat → Int32) (n : Nat) (u0 u1 M : Nat → Int32) (f : Bool) (K : Nat → JCap) (fl ce R F1 F2 CU LN TG MK LO HI : Nat → Int32) (P q r : Nat) : Prop :=
  numR fi n M R P q r ∧ mBool R ∧ cRel ci G R (nI n) n ∧ R 21 = (if f then 1 else 0) ∧
  (f = true → r < 8 ∧ ¬ M 7 = 0 ∧ M 3 = 1 ∧ ∃ tl k : Nat, M 8 = nI tl ∧ P ≤ tl ∧ tl < n ∧ k = P + (n - tl) ∧ k < P + 1 + q ∧ capR n P q r tl k K F1 F2) ∧
  cmpR r K CU LN TG ∧ mskR fl ce MK LO HI ∧ rngR F1 F2 ∧ ringR n u0 u1 F1 F2
theorem ringR_s {n : Nat} {u0 u1 F1 F2 : Nat → Int32} (h : ringR n u0 u1 F1 F2) (a b : Int32) : ringR (n + 1) (upd u0 (n % 16) a) (upd u1 (n % 16) b) (upd F1 (n % 64) a) (upd F2 (n % 64) b) := by
  intro z h1 h2
  by_cases e : z = n
  · subst e; rw [pk_us, pk_us, pk_us, pk_us]; exact ⟨rfl, rfl⟩
  · have a1 : ¬ z % 16 = n % 16 := mod_ne16 (by omega) (by omega)
    have a2 : ¬ z % 64 = n % 64 := mod_ne (by omega) (by omega)
    rw [pk_un a1, pk_un a1, pk_un a2, pk_un a2]
    exact h z (by omega) (by omega)
theorem runR_tOK {ci : Nat} {fi : Int32} {G : Nat → Int32} {n : Nat} {u0 u1 M : Nat → Int32} {f : Bool} {K : Nat → JCap} {fl ce R F1 F2 CU LN TG MK LO HI : Nat → Int32} {P q r : Nat} (h : runR ci fi G n u0 u1 M f K fl ce R F1 F2 CU LN TG MK LO HI P q r) (hn : n < 1000000) : tOK R n P q r := by
  obtain ⟨⟨n24, n17, n18, n28, m1, m4, m5, n19, n20, n22, n23, n25, hr8, hP, hq, har, -⟩, -, -, h21, hc, -⟩ := h
  refine ⟨n24, n17, n18, n28, hn, hP, hq, hr8, fun z => har (by rw [← n20]; exact z), fun z => ?_⟩
  cases f with
  | false => exact absurd h21 z
  | true =>
    obtain ⟨hr, h7, -, tl, k, h8, h1, h2, -⟩ := hc rfl
    exact ⟨hr, tl, (n23 h7).trans h8, h1, by omega⟩
theorem tG_num {fi : Int32} {n : Nat} {M R : Nat → Int32} {P q r : Nat} (h : numR fi n M R P q r) (a b : Int32) : numR (fiS fi (mR (upd R 24 (nI (n + 1))) a b)) (n + 1) M (tG R n a b) P q r := by
  obtain ⟨n24, n17, n18, n28, m1, m4, m5, n19, n20, n22, n23, n25, hr8, hP, hq, har, fc, hfc, m9, r35, hof, hoo⟩ := h
  have gk : ∀ k, 17 ≤ k → k ≠ 24 → k ≠ 25 → tG R n a b k = R k := fun k h1 h2 h3 => tG_k R n a b k (Or.inr h1) h2 h3
  refine ⟨tG_24 R n a b, (gk 17 (by decide) (by decide) (by decide)).trans n17, (gk 18 (by decide) (by decide) (by decide)).trans n18, (gk 28 (by decide) (by decide) (by decide)).trans n28, m1, m4, m5, (gk 19 (by decide) (by decide) (by decide)).trans n19, (gk 20 (by decide) (by decide) (by decide)).trans n20, (gk 22 (by decide) (by decide) (by decide)).trans n22, fun z => (gk 23 (by decide) (by decide) (by decide)).trans (n23 z), ?_, hr8, hP, hq, har, fc, hfc, m9, (gk 35 (by decide) (by decide) (by decide)).trans r35, hof, fun z => (gk 36 (by decide) (by decide) (by decide)).trans (hoo z)⟩
  unfold tG
  rw [pk_us, mG_k _ _ _ _ (by decide), pk_un (by decide), n25]
  unfold m01 fiS
  split
  · rw [Int32.add_zero]
  · rfl
theorem tG_bool {R : Nat → Int32} (h : mBool R) (n : Nat) (a b : Int32) : mBool (tG R n a b) := mBool_u (mBool_G (mBool_u h 24 _ (Or.inl (by decide))) a b) 25 _ (Or.inl (by decide))
theorem tG_cond {ci : Nat} {G R : Nat → Int32} {n : Nat} (h : cRel ci G R (nI n) n) (hn : n < 1000000) (a b : Int32) : cR ci G (nI n) a b = mR (upd R 24 (nI (n + 1))) a b ∧ cRel ci (cG ci G (nI n) a b) (tG R n a b) (nI (n + 1)) (n + 1) := by
  have h1 : cRel ci G (upd R 24 (nI (n + 1))) (nI n) n := cRel_congr h (fun k hk => pk_un (by omega))
  obtain ⟨e1, e2⟩ := cRel_step h1 hn a b
  refine ⟨e1, ?_⟩
  rw [← nI_1]
  exact cRel_congr e2 (fun k hk => by unfold tG; rw [pk_un (by omega)])
theorem tStep_n {MK LO HI R F1 F2 CU LN TG : Nat → Int32} {n P q r : Nat} {a b : Int32} (hd : tD (tT R n a b) n = 0) : tStep MK LO HI n P q r (R, F1, F2, CU, LN, TG) a b = ((tT R n a b, upd F1 (n % 64) a, upd F2 (n % 64) b, CU, LN, TG), 0) := if_pos hd
theorem tStep_y {MK LO HI R F1 F2 CU LN TG : Nat → Int32} {n P q r : Nat} {a b : Int32} (hd : ¬ tD (tT R n a b) n = 0) : tStep MK LO HI n P q r (R, F1, F2, CU, LN, TG) a b = ((mFin (tT R n a b) r (mfnd (upd F1 (n % 64) a) MK LO HI (n + 1) (P + 1 + q) (P + 1 + q)), upd F1 (n % 64) a, upd F2 (n % 64) b, mcau (upd F1 (n % 64) a) (upd F2 (n % 64) b) r (n + 1) (P + 1 + q) (P + 1 + q) CU, upd LN r (nI (P + 1 + q)), upd TG r (tT R n a b 23)), 1) := if_neg hd
/-- what a step leaves on both sides -/
def stepR (ci : Nat) (fi : Int32) (G : Nat → Int32) (n : Nat) (u0 u1 fl ce MK LO HI : Nat → Int32) (P q : Nat) (Y : (Nat → Int32) × Bool × (Nat → JCap) × Int32) (X : MS × Int32) : Prop :=
  Y.2.2.2 = X.2 ∧ (X.2 = 0 ∨ X.2 = 1) ∧ ∃ r : Nat, runR ci fi G n u0 u1 Y.1 Y.2.1 Y.2.2.1 fl ce X.1.1 X.1.2.1 X.1.2.2.1 X.1.2.2.2.1 X.1.2.2.2.2.1 X.1.2.2.2.2.2 MK LO HI P q r
theorem fin_cont {ci : Nat} {fi : Int32} {G : Nat → Int32} {n : Nat} {u0 u1 M : Nat → Int32} {K : Nat → JCap} {fl ce R R3 F1 F2 CU LN TG MK LO HI : Nat → Int32} {P q r tl k : Nat} {a b : Int32} (e : tT R n a b = R3) (h21 : R3 21 = 1) (hN : numR fi (n + 1) M R3 P q r) (hB : mBool R3) (hc : cRel ci G R3 (nI (n + 1)) (n + 1)) (h7 : ¬ M 7 = 0) (h3 : M 3 = 1) (h8 : M 8 = nI tl) (hr : r < 8) (ht1 : P ≤ tl) (ht2 : tl ≤ n) (hk : k = P + (n - tl)) (hkq : k < P + 1 + q) (hn : n + 1 < 1000000)
    (hC : capR n P q r tl k K F1 F2) (hD : cmpR r K CU LN TG) (hm : mskR fl ce MK LO HI) (hg : rngR F1 F2) (hR : ringR n u0 u1 F1 F2) (ha : rIn a) (hb : rIn b) :
    stepR ci fi G (n + 1) (upd u0 (n % 16) a) (upd u1 (n % 16) b) fl ce MK LO HI P q (mCont M K r k a b fl ce) (tStep MK LO HI n P q r (R, F1, F2, CU, LN, TG) a b) := by
  have hP := hN.2.2.2.2.2.2.2.2.2.2.2.2.2.1
  rcases cont_step hN h7 h3 h8 hr ht1 ht2 hk hkq hn hC hD hm hg ha hb with ⟨c1, c2, c3, c4, c5⟩ | ⟨c1, c2, c3, c4⟩
  · have hd : tD (tT R n a b) n = 0 := by rw [e]; unfold tD; rw [h21, if_neg (by decide), if_neg c1]
    rw [tStep_n hd, c2, e]
    exact ⟨rfl, Or.inl rfl, r, hN, hB, hc, h21, fun _ => ⟨hr, h7, h3, tl, k + 1, h8, ht1, by omega, by omega, c3, c4⟩, c5, hm, rngR_u hg _ ha hb, ringR_s hR a b⟩
  · have hd : ¬ tD (tT R n a b) n = 0 := by rw [e]; unfold tD; rw [h21, if_neg (by decide), if_pos c1]; decide
    rw [tStep_y hd, c2, e]
    refine ⟨rfl, Or.inr rfl, r + 1, c3, mBool_F hB _ _, cRel_congr hc (fun z hz => mFin_k R3 r (mfnd (upd F1 (n % 64) a) MK LO HI (n + 1) (P + 1 + q) (P + 1 + q)) z (by omega)), mFin_21 R3 r (mfnd (upd F1 (n % 64) a) MK LO HI (n + 1) (P + 1 + q) (P + 1 + q)), fun z => Bool.noConfusion z, c4, hm, rngR_u hg _ ha hb, ringR_s hR a b⟩
theorem run_step {ci : Nat} {fi : Int32} {G : Nat → Int32} {n : Nat} {u0 u1 M : Nat → Int32} {f : Bool} {K : Nat → JCap} {fl ce R F1 F2 CU LN TG MK LO HI : Nat → Int32} {P q r : Nat} (h : runR ci fi G n u0 u1 M f K fl ce R F1 F2 CU LN TG MK LO HI P q r) (hn : n + 1 < 1000000) {a b : Int32} (ha : rIn a) (hb : rIn b) :
    stepR ci (fiS fi (cR ci G (nI n) a b)) (cG ci G (nI n) a b) (n + 1) (upd u0 (n % 16) a) (upd u1 (n % 16) b) fl ce MK LO HI P q (mStep f M K r (K r).2.2.1.toNatClampNeg P n u0 u1 (cR ci G (nI n) a b) a b fl ce) (tStep MK LO HI n P q r (R, F1, F2, CU, LN, TG) a b) := by
  obtain ⟨hN, hB, hc, h21, hcat, hD, hm, hg, hR⟩ := h
  obtain ⟨ec, hc2⟩ := tG_cond hc (by omega) a b
  have hN2 := tG_num hN a b
  have hB2 := tG_bool hB n a b
  have g21 : tG R n a b 21 = R 21 := tG_k R n a b 21 (by decide) (by decide) (by decide)
  rw [ec]
  generalize hfr : mR (upd R 24 (nI (n + 1))) a b = fr at *
  cases f with
  | true =>
    obtain ⟨hr, h7, h3, tl, k, h8, ht1, ht2, hk, hkq, hC⟩ := hcat rfl
    have hq := hN.2.2.2.2.2.2.2.2.2.2.2.2.2.2.1
    have hP := hN.2.2.2.2.2.2.2.2.2.2.2.2.2.1
    have ek : (K r).2.2.1.toNatClampNeg = k := by rw [hC.2.2.1, nI_tn (by omega)]
    have h21' : R 21 = 1 := h21
    have hcan : mCan (tG R n a b) (nI n) = 0 := by
      unfold mCan
      rw [g21, h21']
      split
      · rfl
      · rw [if_neg (by decide)]
    have et : tT R n a b = tG R n a b := by
      unfold tT
      rw [hfr]
      split
      · rfl
      · rfl
    rw [ek]
    exact fin_cont et (g21.trans h21') hN2 hB2 hc2 h7 h3 h8 hr ht1 (by omega) hk hkq hn hC hD hm hg hR ha hb
  | false =>
    have h21' : R 21 = 0 := h21
    -- nothing is caught
    have hno : tT R n a b = tG R n a b → stepR ci (fiS fi fr) (cG ci G (nI n) a b) (n + 1) (upd u0 (n % 16) a) (upd u1 (n % 16) b) fl ce MK LO HI P q (M, false, K, 0) (tStep MK LO HI n P q r (R, F1, F2, CU, LN, TG) a b) := by
      intro et
      have hd : tD (tT R n a b) n = 0 := by rw [et]; unfold tD; rw [g21, h21', if_pos rfl]
      rw [tStep_n hd, et]
      exact ⟨rfl, Or.inl rfl, r, hN2, hB2, hc2, g21.trans h21', fun z => Bool.noConfusion z, hD, hm, rngR_u hg _ ha hb, ringR_s hR a b⟩
    by_cases c0 : fr = 0
    · have e1 : mStep false M K r (K r).2.2.1.toNatClampNeg P n u0 u1 fr a b fl ce = (M, false, K, 0) := if_pos c0
      rw [e1]
      exact hno (by unfold tT; rw [hfr, if_pos c0])
    · have hcm : mCan (tG R n a b) (nI n) = mayT M (nI n) := by
        obtain ⟨n24, n17, n18, n28, m1, m4, m5, n19, n20, n22, n23, n25, hr8, hP, hq, har, -⟩ := hN2
        unfold mCan mayT hO
        rw [g21, h21', if_pos rfl, n20, n17, n22, n19, m4, m1]
        by_cases k3 : M 3 = 0
        · rw [if_pos k3, if_pos k3]
        · rw [if_neg k3, if_neg k3, if_neg (show ¬ (8 : Int32) ≤ nI r from fun z => by have := (jle8 r (by omega)).mp z; have := har k3; omega)]
          by_cases k4 : nI n < nI P
          · rw [if_pos k4, if_pos k4]
          · rw [if_neg k4, if_neg k4]
            by_cases k7 : M 7 = 0
            · rw [if_pos k7, if_pos k7, if_pos rfl]
            · rw [if_neg k7, if_neg k7, n23 k7]
              by_cases k8 : M 6 < nI n - M 8
              · rw [if_pos k8, if_pos rfl, if_neg (Int32.not_le.mpr k8)]
              · rw [if_neg k8, if_pos (Int32.not_lt.mp k8), if_neg (show ¬ (1 : Int32) = 0 by decide)]
      by_cases cm : mayT M (nI n) = 0
      · have e1 : mStep false M K r (K r).2.2.1.toNatClampNeg P n u0 u1 fr a b fl ce = (M, false, K, 0) := (if_neg c0).trans (if_pos cm)
        rw [e1]
        exact hno (by unfold tT; rw [hfr, if_neg c0, if_pos (hcm.trans cm)])
      · have e1 : mStep false M K r (K r).2.2.1.toNatClampNeg P n u0 u1 fr a b fl ce = mCont (mBegM M n) (mBegK M K r n P u0 u1) r P a b fl ce := (if_neg c0).trans (if_neg cm)
        rw [e1]
        obtain ⟨n24, n17, n18, n28, m1, m4, m5, n19, n20, n22, n23, n25, hr8, hP, hq, har, fc, hfc, m9, r35, hof, hoo⟩ := hN2
        have hr : r < 8 := mayT_r cm m1 hr8
        have hPn : P ≤ n := mayT_P cm m4 hP (by omega)
        have k3 : ¬ M 3 = 0 := fun z => cm (by unfold mayT; rw [if_pos z])
        have b3 : M 3 = 1 := by
          have hb3 := hB2.2.2.2.2.2.2.1
          rw [n20] at hb3
          exact hb3.resolve_left k3
        have et : tT R n a b = upd (upd (upd (tG R n a b) 22 1) 23 (nI n)) 21 1 := by unfold tT; rw [hfr, if_neg c0, if_neg (fun z => cm (hcm.symm.trans z))]
        have bk : ∀ z, z ≠ 7 → z ≠ 8 → mBegM M n z = M z := fun z h1 h2 => by unfold mBegM; rw [pk_un h2, pk_un h1]
        have b7 : mBegM M n 7 = 1 := by unfold mBegM; rw [pk_un (by decide), pk_us]
        have b8 : mBegM M n 8 = nI n := by unfold mBegM; rw [pk_us]
        generalize hR3 : upd (upd (upd (tG R n a b) 22 1) 23 (nI n)) 21 1 = R3 at et
        have r3k : ∀ z, z ≠ 21 → z ≠ 22 → z ≠ 23 → R3 z = tG R n a b z := fun z h1 h2 h3 => by rw [← hR3, pk_un h1, pk_un h3, pk_un h2]
        have hN3 : numR (fiS fi fr) (n + 1) (mBegM M n) R3 P q r := by
          refine ⟨(r3k 24 (by decide) (by decide) (by decide)).trans n24, (r3k 17 (by decide) (by decide) (by decide)).trans n17, (r3k 18 (by decide) (by decide) (by decide)).trans n18, (r3k 28 (by decide) (by decide) (by decide)).trans n28, (bk 1 (by decide) (by decide)).trans m1, (bk 4 (by decide) (by decide)).trans m4, (bk 5 (by decide) (by decide)).trans m5, ?_, ?_, ?_, ?_, (r3k 25 (by decide) (by decide) (by decide)).trans n25, hr8, hP, hq, ?_, fc, hfc, (bk 9 (by decide) (by decide)).trans m9, (r3k 35 (by decide) (by decide) (by decide)).trans r35, ?_, ?_⟩
          · rw [bk 6 (by decide) (by decide)]; exact (r3k 19 (by decide) (by decide) (by decide)).trans n19
          · rw [bk 3 (by decide) (by decide)]; exact (r3k 20 (by decide) (by decide) (by decide)).trans n20
          · rw [b7, ← hR3, pk_un (by decide), pk_un (by decide), pk_us]
          · intro _; rw [b8, ← hR3, pk_un (by decide), pk_us]
          · rw [bk 3 (by decide) (by decide)]; exact har
          · rw [bk 10 (by decide) (by decide)]; exact hof
          · rw [bk 10 (by decide) (by decide)]; intro z; exact (r3k 36 (by decide) (by decide) (by decide)).trans (hoo z)
        have hB3 : mBool R3 := by
          rw [← hR3]
          exact mBool_u (mBool_u (mBool_u hB2 22 1 (Or.inr (Or.inr rfl))) 23 _ (Or.inl (by decide))) 21 1 (Or.inr (Or.inr rfl))
        have hKr : mBegK M K r n P u0 u1 r = (nI n, M 4 + 1 + M 5, nI P, jcp n P P u0 (K r).2.2.2.1, jcp n P P u1 (K r).2.2.2.2) := upK_s
        refine fin_cont (tl := n) (k := P) et (by rw [← hR3, pk_us]) hN3 hB3 (cRel_congr hc2 (fun z hz => r3k z (by omega) (by omega) (by omega))) (by rw [b7]; decide) ((bk 3 (by decide) (by decide)).trans b3) b8 hr hPn (Nat.le_refl _) (by omega) (by omega) hn ?_ ?_ hm hg hR ha hb
        · unfold capR
          rw [hKr]
          refine ⟨rfl, ?_, rfl, fun j hj => ?_⟩
          · show M 4 + 1 + M 5 = _
            rw [m4, m5, nI_1, nI_add]
          · show jcp n P P u0 (K r).2.2.2.1 j = _ ∧ jcp n P P u1 (K r).2.2.2.2 j = _
            unfold jcp
            rw [if_pos hj, if_pos hj, show n - (P - j) = n - P + j by omega]
            exact hR (n - P + j) (by omega) (by omega)
        · intro i hi
          have : mBegK M K r n P u0 u1 i = K i := if_neg (by omega)
          rw [this]
          exact hD i hi
