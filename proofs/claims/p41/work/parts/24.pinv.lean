/-! the property of its own: what ties a scope to the samples that came -/
def rIn (x : Int32) : Prop := jin x (-128) 127
/-- x, kept between -128 and 127 -/
def hld (x : Int32) : Int32 := if x < -128 then -128 else if 127 < x then 127 else x
theorem toI64_lt (x y : Int32) : x.toInt64 < y.toInt64 ↔ x < y := by
  rw [Int64.lt_iff_toInt_lt, Int32.toInt_toInt64, Int32.toInt_toInt64, Int32.lt_iff_toInt_lt]
theorem kept_hld (x : Int32) : jkept x.toInt64 (-128) 127 = hld x := by
  unfold jkept jmaxL jminL hld
  by_cases c1 : x.toInt64 < (127 : Int32).toInt64
  · rw [if_pos c1]
    have c1' : x < 127 := (toI64_lt _ _).mp c1
    by_cases c2 : x.toInt64 < (-128 : Int32).toInt64
    · rw [if_pos c2, if_pos ((toI64_lt _ _).mp c2), Int32.toInt32_toInt64]
    · rw [if_neg c2, if_neg (fun z => c2 ((toI64_lt _ _).mpr z)), if_neg (Int32.not_lt.mpr (Int32.le_of_lt c1')), Int32.toInt32_toInt64]
  · rw [if_neg c1]
    have c1' : 127 ≤ x := Int32.not_lt.mp (fun z => c1 ((toI64_lt _ _).mpr z))
    rw [if_neg (fun z => absurd ((toI64_lt _ _).mp z) (by decide)), Int32.toInt32_toInt64, if_neg (Int32.not_lt.mpr (Int32.le_trans (by decide) c1'))]
    by_cases c3 : 127 < x
    · rw [if_pos c3]
    · rw [if_neg c3]; exact Int32.le_antisymm c1' (Int32.not_lt.mp c3)
theorem rIn_hld (x : Int32) : rIn (hld x) := by
  unfold hld rIn jin
  by_cases c : x < -128
  · rw [if_pos c]; decide
  · rw [if_neg c]
    by_cases c2 : 127 < x
    · rw [if_pos c2]; decide
    · rw [if_neg c2]; exact ⟨c, Int32.not_lt.mp c2⟩
theorem jlow_v (f fl ce : Nat → Int32) : ∀ d i : Nat, jlow f fl ce d i = -1 ∨ ∃ j : Nat, j < i + d ∧ jlow f fl ce d i = nI j
  | 0, _ => Or.inl rfl
  | d + 1, i => by
    rw [jlow]
    (repeat' split)
    · exact Or.inr ⟨i, by omega, rfl⟩
    · rcases jlow_v f fl ce d (i + 1) with h | ⟨j, h1, h2⟩
      · exact Or.inl h
      · exact Or.inr ⟨j, by omega, h2⟩
    · exact Or.inr ⟨i, by omega, rfl⟩
/-- the numbers of the memory: r records, P samples ahead of a trigger and q behind it -/
def pNum (fi : Int32) (n : Nat) (M : Nat → Int32) (f : Bool) (P q r : Nat) : Prop :=
  M 1 = nI r ∧ r ≤ 8 ∧ M 4 = nI P ∧ P ≤ 16 ∧ M 5 = nI q ∧ q ≤ 32 ∧ (M 3 = 0 ∨ (M 3 = 1 ∧ r < 8)) ∧
  (∃ fc : Nat, fc ≤ r ∧ M 9 = nI fc ∧ ((fc = 0 ∧ M 10 = -1) ∨ (0 < fc ∧ ∃ o j : Nat, o < r ∧ j < 49 ∧ M 10 = nI (100 * o + j)))) ∧
  (∃ ff : Nat, fi = nI ff ∧ r + f.toNat ≤ ff ∧ ff ≤ n) ∧ (∃ ho : Nat, M 6 = nI ho ∧ ho ≤ 1000)
/-- the complete records, their triggers TL, the samples F1 and F2 -/
def pRec (n P q r : Nat) (K : Nat → JCap) (TL : Nat → Nat) (F1 F2 : Nat → Int32) : Prop :=
  ∀ i, i < r → (K i).1 = nI (TL i) ∧ P ≤ TL i ∧ TL i + q < n ∧ (K i).2.2.1 = nI (P + 1 + q) ∧ (∀ j, j < P + 1 + q → (K i).2.2.2.1 j = F1 (TL i - P + j) ∧ (K i).2.2.2.2 j = F2 (TL i - P + j)) ∧ (0 < i → TL (i - 1) + q < TL i)
/-- the record that is being caught, of k samples so far, with its trigger tl -/
def pCap (n P q r tl k : Nat) (K : Nat → JCap) (TL : Nat → Nat) (F1 F2 : Nat → Int32) : Prop :=
  (K r).1 = nI tl ∧ (K r).2.1 = nI (P + 1 + q) ∧ (K r).2.2.1 = nI k ∧ P ≤ tl ∧ tl ≤ n ∧ k = P + (n - tl) ∧ k < P + 1 + q ∧ (∀ j, j < k → (K r).2.2.2.1 j = F1 (tl - P + j) ∧ (K r).2.2.2.2 j = F2 (tl - P + j)) ∧ (0 < r → TL (r - 1) + q < tl)
def pRing (n : Nat) (u0 u1 F1 F2 : Nat → Int32) : Prop := ∀ z, z < n → n ≤ z + 16 → u0 (z % 16) = F1 z ∧ u1 (z % 16) = F2 z
def pRng (F1 F2 : Nat → Int32) : Prop := ∀ z, rIn (F1 z) ∧ rIn (F2 z)
def pMem (n : Nat) (M : Nat → Int32) (f : Bool) (K : Nat → JCap) (F1 F2 : Nat → Int32) (P q r : Nat) : Prop :=
  ∃ TL : Nat → Nat, pRec n P q r K TL F1 F2 ∧ (f = true → r < 8 ∧ M 3 = 1 ∧ ∃ tl k : Nat, tl < n ∧ pCap n P q r tl k K TL F1 F2)
/-- a scope and the samples that came -/
def pR (fi : Int32) (n : Nat) (u0 u1 M : Nat → Int32) (f : Bool) (K : Nat → JCap) (F1 F2 : Nat → Int32) (P q r : Nat) : Prop :=
  pNum fi n M f P q r ∧ pMem n M f K F1 F2 P q r ∧ pRing n u0 u1 F1 F2 ∧ pRng F1 F2
theorem pRec_s {n P q r : Nat} {K : Nat → JCap} {TL : Nat → Nat} {F1 F2 : Nat → Int32} (h : pRec n P q r K TL F1 F2) : pRec (n + 1) P q r K TL F1 F2 := fun i hi => by
  obtain ⟨h1, h2, h3, h4⟩ := h i hi
  exact ⟨h1, h2, by omega, h4⟩
theorem pRing_s {n : Nat} {u0 u1 F1 F2 : Nat → Int32} (h : pRing n u0 u1 F1 F2) : pRing (n + 1) (upd u0 (n % 16) (F1 n)) (upd u1 (n % 16) (F2 n)) F1 F2 := by
  intro z h1 h2
  by_cases e : z = n
  · subst e; rw [pk_us, pk_us]; exact ⟨rfl, rfl⟩
  · have a1 : ¬ z % 16 = n % 16 := by omega
    rw [pk_un a1, pk_un a1]
    exact h z (by omega) (by omega)
theorem pNum_s {fi : Int32} {n : Nat} {M : Nat → Int32} {f : Bool} {P q r : Nat} (h : pNum fi n M f P q r) (fr : Int32) : pNum (fiS fi fr) (n + 1) M f P q r := by
  obtain ⟨h1, h2, h3, h4, h5, h6, h7, h8, ⟨ff, g1, g2, g3⟩, h10⟩ := h
  refine ⟨h1, h2, h3, h4, h5, h6, h7, h8, ?_, h10⟩
  unfold fiS
  split
  · exact ⟨ff, g1, g2, by omega⟩
  · exact ⟨ff + 1, by rw [g1, nI_1], by omega, by omega⟩
theorem pDone_M (M : Nat → Int32) (r : Nat) (h : M 1 = nI r) (hr : r < 8) : mDone M 1 = nI (r + 1) ∧ mDone M 3 = (if r + 1 < 8 then M 3 else 0) ∧ ∀ k, k ≠ 1 → k ≠ 3 → mDone M k = M k := by
  refine ⟨by rw [mDone_1, h, nI_1], ?_, fun k h1 h3 => mDone_k M k h1 h3⟩
  unfold mDone
  have e8 : nI (r + 1) < (8 : Int32) ↔ r + 1 < 8 := nI_ltI (a := r + 1) (b := 8) (by omega) (by decide)
  rw [h, nI_1]
  by_cases c : r + 1 < 8
  · rw [if_pos (e8.mpr c), if_pos c, pk_un (by decide)]
  · rw [if_neg (fun z => c (e8.mp z)), if_neg c, pk_us]
/-- what a sample leaves -/
def pStp (fi : Int32) (n : Nat) (u0 u1 M : Nat → Int32) (F1 F2 : Nat → Int32) (P q r : Nat) (Y : (Nat → Int32) × Bool × (Nat → JCap) × Int32) : Prop :=
  ∃ r' : Nat, pR fi n u0 u1 Y.1 Y.2.1 Y.2.2.1 F1 F2 P q r' ∧ ((Y.2.2.2 = 0 ∧ r' = r) ∨ (Y.2.2.2 = 1 ∧ r' = r + 1)) ∧ (M 3 = 0 → Y.1 3 = 0 ∧ Y.2.2.2 = 0)
/-- a sample joins the record that is being caught -/
theorem pCont {fi : Int32} {n P q r tl k : Nat} {M fl ce F1 F2 u0 u1 : Nat → Int32} {K : Nat → JCap} {TL : Nat → Nat} (hN : pNum fi (n + 1) M true P q r) (hr : r < 8) (h3 : M 3 = 1) (hC : pCap n P q r tl k K TL F1 F2) (hD : pRec n P q r K TL F1 F2) (hn : n + 1 < 1000000)
    (hR : pRing (n + 1) u0 u1 F1 F2) (hG : pRng F1 F2) : pStp fi (n + 1) u0 u1 M F1 F2 P q r (mCont M K r k (F1 n) (F2 n) fl ce) := by
  obtain ⟨m1, hr8, m4, hP, m5, hq, har, ⟨fc, f1, m9, f2⟩, ⟨ff, g1, g2, g3⟩, hho⟩ := hN
  obtain ⟨c1, c2, c3, c4, c5, c6, c7, c8, c9⟩ := hC
  have hKr : mAddK K r k (F1 n) (F2 n) r = ((K r).1, (K r).2.1, nI (k + 1), upd (K r).2.2.2.1 k (F1 n), upd (K r).2.2.2.2 k (F2 n)) := upK_s
  have hKn : ∀ i, i ≠ r → mAddK K r k (F1 n) (F2 n) i = K i := fun i hi => if_neg hi
  have hj0 : ∀ j, j < k + 1 → upd (K r).2.2.2.1 k (F1 n) j = F1 (tl - P + j) ∧ upd (K r).2.2.2.2 k (F2 n) j = F2 (tl - P + j) := by
    intro j hj
    by_cases e : j = k
    · subst e
      rw [pk_us, pk_us, show tl - P + j = n by omega]; exact ⟨rfl, rfl⟩
    · rw [pk_un e, pk_un e]
      exact c8 j (by omega)
  have hDn : ∀ i, i < r → (mAddK K r k (F1 n) (F2 n) i).1 = nI (TL i) ∧ P ≤ TL i ∧ TL i + q < n + 1 ∧ (mAddK K r k (F1 n) (F2 n) i).2.2.1 = nI (P + 1 + q) ∧ (∀ j, j < P + 1 + q → (mAddK K r k (F1 n) (F2 n) i).2.2.2.1 j = F1 (TL i - P + j) ∧ (mAddK K r k (F1 n) (F2 n) i).2.2.2.2 j = F2 (TL i - P + j)) ∧ (0 < i → TL (i - 1) + q < TL i) := fun i hi => by
    rw [hKn i (by omega)]
    exact pRec_s hD i hi
  by_cases c : k + 1 < P + 1 + q
  · have e : mCont M K r k (F1 n) (F2 n) fl ce = (M, true, mAddK K r k (F1 n) (F2 n), 0) := by
      unfold mCont
      rw [c2, if_pos (nI_lt c (by omega))]
    rw [e]
    refine ⟨r, ⟨⟨m1, hr8, m4, hP, m5, hq, har, ⟨fc, f1, m9, f2⟩, ⟨ff, g1, g2, g3⟩, hho⟩, ⟨TL, hDn, fun _ => ⟨hr, h3, tl, k + 1, by omega, ?_⟩⟩, hR, hG⟩, Or.inl ⟨rfl, rfl⟩, fun z => absurd (h3.symm.trans z) (by decide)⟩
    unfold pCap
    dsimp only
    rw [hKr]
    exact ⟨c1, c2, rfl, c4, by omega, by omega, c, hj0, c9⟩
  · have hkw : k + 1 = P + 1 + q := by omega
    have e : mCont M K r k (F1 n) (F2 n) fl ce = (mJudge (mDone M) (upd (K r).2.2.2.1 k (F1 n)) fl ce r (k + 1), false, mAddK K r k (F1 n) (F2 n), 1) := by
      unfold mCont
      rw [c2, if_neg (nI_nlt (by omega) (by omega))]
    rw [e]
    obtain ⟨d1, d3, dk⟩ := pDone_M M r m1 hr
    have htq : tl + q < n + 1 := by omega
    have jk : ∀ z, z ≠ 9 → z ≠ 10 → mJudge (mDone M) (upd (K r).2.2.2.1 k (F1 n)) fl ce r (k + 1) z = mDone M z := fun z h9 h10 => mJudge_k _ _ _ _ _ _ _ h9 h10
    have hoff : ∃ fc : Nat, fc ≤ r + 1 ∧ mJudge (mDone M) (upd (K r).2.2.2.1 k (F1 n)) fl ce r (k + 1) 9 = nI fc ∧ ((fc = 0 ∧ mJudge (mDone M) (upd (K r).2.2.2.1 k (F1 n)) fl ce r (k + 1) 10 = -1) ∨ (0 < fc ∧ ∃ o j : Nat, o < r + 1 ∧ j < 49 ∧ mJudge (mDone M) (upd (K r).2.2.2.1 k (F1 n)) fl ce r (k + 1) 10 = nI (100 * o + j))) := by
      have d9 := dk 9 (by decide) (by decide)
      have d10 := dk 10 (by decide) (by decide)
      unfold mJudge
      rcases jlow_v (upd (K r).2.2.2.1 k (F1 n)) fl ce (k + 1) 0 with v | ⟨j, hj, v⟩
      · rw [if_pos v, d9, d10]
        refine ⟨fc, by omega, m9, f2.imp id (fun ⟨y, o, j, y1, y2, y3⟩ => ⟨y, o, j, by omega, y2, y3⟩)⟩
      · have hnm : ¬ nI j = -1 := fun z => absurd (z ▸ nI_pos (show j < 2 ^ 31 by omega) : ¬ (-1 : Int32) < 0) (by decide)
        rw [v, if_neg hnm, d10]
        rcases f2 with ⟨y1, y2⟩ | ⟨y, o, j2, y1, y2, y3⟩
        · rw [if_pos y2]
          refine ⟨fc + 1, by omega, ?_, Or.inr ⟨by omega, r, j, by omega, by omega, ?_⟩⟩
          · rw [pk_un (by decide), pk_us, d9, m9, nI_1]
          · rw [pk_us, show (100 : Int32) * nI r = nI (100 * r) from pk_mul 100 r, nI_add]
        · have hn1 : ¬ M 10 = -1 := fun z => absurd ((z.symm.trans y3) ▸ nI_pos (show 100 * o + j2 < 2 ^ 31 by omega) : ¬ (-1 : Int32) < 0) (by decide)
          rw [if_neg hn1]
          refine ⟨fc + 1, by omega, ?_, Or.inr ⟨by omega, o, j2, by omega, by omega, ?_⟩⟩
          · rw [pk_us, d9, m9, nI_1]
          · rw [pk_un (by decide), d10, y3]
    refine ⟨r + 1, ⟨⟨?_, by omega, ?_, hP, ?_, hq, ?_, hoff, ⟨ff, g1, by have : true.toNat = 1 := rfl; have : false.toNat = 0 := rfl; dsimp only; omega, g3⟩, ?_⟩, ⟨fun i => if i = r then tl else TL i, ?_, fun z => Bool.noConfusion z⟩, hR, hG⟩, Or.inr ⟨rfl, rfl⟩, fun z => absurd (h3.symm.trans z) (by decide)⟩
    · dsimp only; rw [jk 1 (by decide) (by decide)]; exact d1
    · dsimp only; rw [jk 4 (by decide) (by decide), dk 4 (by decide) (by decide)]; exact m4
    · dsimp only; rw [jk 5 (by decide) (by decide), dk 5 (by decide) (by decide)]; exact m5
    · dsimp only
      rw [jk 3 (by decide) (by decide), d3]
      by_cases z : r + 1 < 8
      · rw [if_pos z]; exact Or.inr ⟨h3, z⟩
      · rw [if_neg z]; exact Or.inl rfl
    · dsimp only; rw [jk 6 (by decide) (by decide), dk 6 (by decide) (by decide)]; exact hho
    · intro i hi
      dsimp only
      by_cases ei : i = r
      · subst ei
        rw [hKr, if_pos rfl]
        refine ⟨c1, c4, htq, by dsimp only; rw [hkw], fun j hj => hj0 j (hkw ▸ hj), fun h0 => ?_⟩
        rw [if_neg (by omega)]
        exact c9 h0
      · rw [if_neg ei, if_neg (show ¬ i - 1 = r by omega)]
        exact hDn i (by omega)
theorem pStep {fi fr : Int32} {n P q r : Nat} {M fl ce F1 F2 u0 u1 : Nat → Int32} {f : Bool} {K : Nat → JCap} (h : pR fi n u0 u1 M f K F1 F2 P q r) (hn : n + 1 < 1000000) :
    pStp (fiS fi fr) (n + 1) (upd u0 (n % 16) (F1 n)) (upd u1 (n % 16) (F2 n)) M F1 F2 P q r (mStep f M K r (K r).2.2.1.toNatClampNeg P n u0 u1 fr (F1 n) (F2 n) fl ce) := by
  obtain ⟨hN, ⟨TL, hD, hC⟩, hR, hG⟩ := h
  have hN2 := pNum_s hN fr
  have hR2 := pRing_s hR
  cases f with
  | true =>
    obtain ⟨hr, h3, tl, k, ht, hc⟩ := hC rfl
    have hq := hN.2.2.2.2.2.1
    have hP := hN.2.2.2.1
    have ek : (K r).2.2.1.toNatClampNeg = k := by rw [hc.2.2.1, nI_tn (by have := hc.2.2.2.2.2.2.1; omega)]
    rw [ek]
    exact pCont hN2 hr h3 hc hD hn hR2 hG
  | false =>
    have hno : ∀ fi' : Int32, pNum fi' (n + 1) M false P q r → pStp fi' (n + 1) (upd u0 (n % 16) (F1 n)) (upd u1 (n % 16) (F2 n)) M F1 F2 P q r (M, false, K, 0) := fun fi' h' =>
      ⟨r, ⟨h', ⟨TL, pRec_s hD, fun z => Bool.noConfusion z⟩, hR2, hG⟩, Or.inl ⟨rfl, rfl⟩, fun z => ⟨z, rfl⟩⟩
    by_cases c0 : fr = 0
    · rw [show mStep false M K r (K r).2.2.1.toNatClampNeg P n u0 u1 fr (F1 n) (F2 n) fl ce = (M, false, K, 0) from if_pos c0]
      exact hno _ hN2
    · by_cases cm : mayT M (nI n) = 0
      · rw [show mStep false M K r (K r).2.2.1.toNatClampNeg P n u0 u1 fr (F1 n) (F2 n) fl ce = (M, false, K, 0) from (if_neg c0).trans (if_pos cm)]
        exact hno _ hN2
      · rw [show mStep false M K r (K r).2.2.1.toNatClampNeg P n u0 u1 fr (F1 n) (F2 n) fl ce = mCont (mBegM M n) (mBegK M K r n P u0 u1) r P (F1 n) (F2 n) fl ce from (if_neg c0).trans (if_neg cm)]
        obtain ⟨m1, hr8, m4, hP, m5, hq, har, hoff, ⟨ff, g1, g2, g3⟩, hho⟩ := hN
        have hr : r < 8 := mayT_r cm m1 hr8
        have hPn : P ≤ n := mayT_P cm m4 hP (by omega)
        have k3 : ¬ M 3 = 0 := fun z => cm (by unfold mayT; rw [if_pos z])
        have b3 : M 3 = 1 := (har.resolve_left k3).1
        have bk : ∀ z, z ≠ 7 → z ≠ 8 → mBegM M n z = M z := fun z h1 h2 => by unfold mBegM; rw [pk_un h2, pk_un h1]
        have hKr : mBegK M K r n P u0 u1 r = (nI n, M 4 + 1 + M 5, nI P, jcp n P P u0 (K r).2.2.2.1, jcp n P P u1 (K r).2.2.2.2) := upK_s
        have hfi : ∃ ff : Nat, fiS fi fr = nI ff ∧ r + true.toNat ≤ ff ∧ ff ≤ n + 1 := by
          unfold fiS
          rw [if_neg c0]
          exact ⟨ff + 1, by rw [g1, nI_1], by have : true.toNat = 1 := rfl; omega, by omega⟩
        have hs := pCont (fi := fiS fi fr) (n := n) (P := P) (q := q) (r := r) (tl := n) (k := P) (M := mBegM M n) (fl := fl) (ce := ce) (F1 := F1) (F2 := F2) (u0 := upd u0 (n % 16) (F1 n)) (u1 := upd u1 (n % 16) (F2 n)) (K := mBegK M K r n P u0 u1) (TL := TL)
          ⟨(bk 1 (by decide) (by decide)).trans m1, hr8, (bk 4 (by decide) (by decide)).trans m4, hP, (bk 5 (by decide) (by decide)).trans m5, hq, by rw [bk 3 (by decide) (by decide)]; exact har, by rw [bk 9 (by decide) (by decide), bk 10 (by decide) (by decide)]; exact hoff, hfi, by rw [bk 6 (by decide) (by decide)]; exact hho⟩ hr ((bk 3 (by decide) (by decide)).trans b3) ?_ ?_ hn hR2 hG
        · obtain ⟨r', s1, s2, s3⟩ := hs
          exact ⟨r', s1, s2, fun z => absurd z k3⟩
        · unfold pCap
          rw [hKr]
          refine ⟨rfl, ?_, rfl, hPn, Nat.le_refl _, by omega, by omega, fun j hj => ?_, fun h0 => ?_⟩
          · show M 4 + 1 + M 5 = _
            rw [m4, m5, nI_1, nI_add]
          · show jcp n P P u0 (K r).2.2.2.1 j = _ ∧ jcp n P P u1 (K r).2.2.2.2 j = _
            unfold jcp
            rw [if_pos hj, if_pos hj, show n - (P - j) = n - P + j by omega]
            exact hR (n - P + j) (by omega) (by omega)
          · exact (hD (r - 1) (by omega)).2.2.1
        · intro i hi
          have : mBegK M K r n P u0 u1 i = K i := if_neg (by omega)
          rw [this]
          exact hD i hi
/-- the condition's fields keep to what they keep -/
theorem cOK_G {ci : Nat} {G : Nat → Int32} (h : cOK ci G) (hci : ci = 1 ∨ ci = 6 ∨ ci = 7 ∨ ci = 8) (nr a b : Int32) : cOK ci (cG ci G nr a b) := by
  rcases hci with rfl | rfl | rfl | rfl
  · refine ⟨fun _ => ?_, (fun z => by cases z)⟩
    have e : cG 1 G nr a b 3 = G 3 := by
      show eN G _ _ 3 = G 3
      unfold eN
      (repeat' split) <;> first | rfl | exact pk_un (by decide)
    rw [e]; exact h.1 rfl
  · exact ⟨(fun z => by cases z), (fun z => by cases z)⟩
  · exact ⟨(fun z => by cases z), (fun z => by cases z)⟩
  · refine ⟨(fun z => by cases z), fun _ => ?_⟩
    have e : cG 8 G nr a b 4 = G 4 := by
      show (if wS G (wI G (eV G a b)) = 0 then upd (upd G 5 1) 6 0 else upd G 6 (G 6 + 1)) 4 = G 4
      split
      · rw [pk_un (by decide), pk_un (by decide)]
      · rw [pk_un (by decide)]
    rw [e]; exact h.2 rfl
/-- the same for a scope's whole state -/
def pRS (S : JS) (F1 F2 : Nat → Int32) (P q r : Nat) : Prop := pR S.1 S.2.2.1 S.2.2.2.1 S.2.2.2.2.1 S.2.2.2.2.2.1 S.2.2.2.2.2.2.1 S.2.2.2.2.2.2.2 F1 F2 P q r
theorem pRS_inv {S : JS} {F1 F2 : Nat → Int32} {P q r : Nat} (h : pRS S F1 F2 P q r) : sInv S := by
  obtain ⟨⟨m1, hr8, m4, hP, m5, hq, -⟩, ⟨TL, -, hC⟩, -⟩ := h
  refine ⟨r, P, q, m1, hr8, m4, hP, m5, hq, fun z => ?_⟩
  obtain ⟨hr, -, tl, k, -, -, c2, c3, -, -, -, c7, -⟩ := hC z
  exact ⟨hr, P + 1 + q, k, ⟨c2, c3⟩, c7, by omega⟩
theorem pRS_step {ci : Nat} {S : JS} {fl ce F1 F2 : Nat → Int32} {P q r : Nat} (h : pRS S F1 F2 P q r) (hn : S.2.2.1 + 1 < 1000000) :
    ∃ r' : Nat, pRS (sStep ci fl ce S (F1 S.2.2.1) (F2 S.2.2.1)).1 F1 F2 P q r' ∧ (((sStep ci fl ce S (F1 S.2.2.1) (F2 S.2.2.1)).2 = 0 ∧ r' = r) ∨ ((sStep ci fl ce S (F1 S.2.2.1) (F2 S.2.2.1)).2 = 1 ∧ r' = r + 1)) ∧ (S.2.2.2.2.2.1 3 = 0 → (sStep ci fl ce S (F1 S.2.2.1) (F2 S.2.2.1)).1.2.2.2.2.2.1 3 = 0 ∧ (sStep ci fl ce S (F1 S.2.2.1) (F2 S.2.2.1)).2 = 0) := by
  have m1 : (S.2.2.2.2.2.1 1).toNatClampNeg = r := by rw [h.1.1, nI_tn (by have := h.1.2.1; omega)]
  have m4 : (S.2.2.2.2.2.1 4).toNatClampNeg = P := by rw [h.1.2.2.1, nI_tn (by have := h.1.2.2.2.1; omega)]
  have hs := pStep (fr := cR ci S.2.1 (nI S.2.2.1) (F1 S.2.2.1) (F2 S.2.2.1)) (fl := fl) (ce := ce) h hn
  have e1 : sStepM ci fl ce S (F1 S.2.2.1) (F2 S.2.2.1) = mStep S.2.2.2.2.2.2.1 S.2.2.2.2.2.1 S.2.2.2.2.2.2.2 r (S.2.2.2.2.2.2.2 r).2.2.1.toNatClampNeg P S.2.2.1 S.2.2.2.1 S.2.2.2.2.1 (cR ci S.2.1 (nI S.2.2.1) (F1 S.2.2.1) (F2 S.2.2.1)) (F1 S.2.2.1) (F2 S.2.2.1) fl ce := by
    unfold sStepM
    rw [m1, m4]
  unfold sStep
  rw [e1]
  exact hs
/-- a run of samples -/
theorem pRS_run {ci : Nat} {S : JS} {fl ce F1 F2 : Nat → Int32} {P q r : Nat} {a b da db : Int32} (h : pRS S F1 F2 P q r) (hok : cOK ci S.2.1) (hci : ci = 1 ∨ ci = 6 ∨ ci = 7 ∨ ci = 8) (i : Nat) (hn : S.2.2.1 + i < 1000000)
    (hF : ∀ j, j < i → F1 (S.2.2.1 + j) = hld (a + nI j * da) ∧ F2 (S.2.2.1 + j) = hld (b + nI j * db)) :
    pRS (sRun ci fl ce S a b da db i).1 F1 F2 P q (r + (sRun ci fl ce S a b da db i).2) ∧ cOK ci (sRun ci fl ce S a b da db i).1.2.1 ∧ (S.2.2.2.2.2.1 3 = 0 → (sRun ci fl ce S a b da db i).1.2.2.2.2.2.1 3 = 0 ∧ (sRun ci fl ce S a b da db i).2 = 0) := by
  induction i with
  | zero => exact ⟨h, hok, fun z => ⟨z, rfl⟩⟩
  | succ i ih =>
    obtain ⟨h1, h2, h3⟩ := ih (by omega) (fun j hj => hF j (by omega))
    have hm := sRun_n ci fl ce S a b da db i
    have hs := pRS_step (ci := ci) (fl := fl) (ce := ce) h1 (by omega)
    have hk := cOK_G h2 hci (nI (sRun ci fl ce S a b da db i).1.2.2.1) (F1 (sRun ci fl ce S a b da db i).1.2.2.1) (F2 (sRun ci fl ce S a b da db i).1.2.2.1)
    rw [hm, (hF i (by omega)).1, (hF i (by omega)).2] at hs
    rw [(congrArg F1 hm).trans (hF i (by omega)).1, (congrArg F2 hm).trans (hF i (by omega)).2] at hk
    rw [sRun, kept_hld, kept_hld]
    obtain ⟨r', s1, s2, s3⟩ := hs
    refine ⟨?_, hk, fun z => ?_⟩
    · dsimp only
      rcases s2 with ⟨e1, e2⟩ | ⟨e1, e2⟩
      · rw [if_pos e1]; rw [e2] at s1; exact s1
      · rw [if_neg (by rw [e1]; decide)]; rw [e2] at s1; exact s1
    · obtain ⟨y1, y2⟩ := h3 z
      obtain ⟨y3, y4⟩ := s3 y1
      exact ⟨y3, by dsimp only; rw [if_pos y4]; exact y2⟩
/-- only the samples that came matter -/
theorem pR_congr {fi : Int32} {n : Nat} {u0 u1 M : Nat → Int32} {f : Bool} {K : Nat → JCap} {F1 F2 F1' F2' : Nat → Int32} {P q r : Nat} (h : pR fi n u0 u1 M f K F1 F2 P q r) (e : ∀ z, z < n → F1' z = F1 z ∧ F2' z = F2 z) (hG : pRng F1' F2') : pR fi n u0 u1 M f K F1' F2' P q r := by
  obtain ⟨hN, ⟨TL, hD, hC⟩, hR, -⟩ := h
  refine ⟨hN, ⟨TL, fun i hi => ?_, fun z => ?_⟩, fun z h1 h2 => ?_, hG⟩
  · obtain ⟨h1, h2, h3, h4, h5, h6⟩ := hD i hi
    refine ⟨h1, h2, h3, h4, fun j hj => ?_, h6⟩
    rw [(e (TL i - P + j) (by omega)).1, (e (TL i - P + j) (by omega)).2]
    exact h5 j hj
  · obtain ⟨hr, h3, tl, k, ht, c1, c2, c3, c4, c5, c6, c7, c8, c9⟩ := hC z
    refine ⟨hr, h3, tl, k, ht, c1, c2, c3, c4, c5, c6, c7, fun j hj => ?_, c9⟩
    rw [(e (tl - P + j) (by omega)).1, (e (tl - P + j) (by omega)).2]
    exact c8 j hj
  · rw [(e z h1).1, (e z h1).2]
    exact hR z h1 h2
/-! the law's own segments -/
def segB (n G : Nat) (B : Nat → Nat) (fb : Nat → Int32) : Prop := (0 < G → B 0 = 0) ∧ (0 < n → 0 < G) ∧ ∀ k, k < G → fb k = nI (B k) ∧ B k < n
def segR (n G : Nat) (B : Nat → Nat) (fa fx F : Nat → Int32) : Prop := ∀ k, k < G → ∀ z, B k ≤ z → z < n → (k + 1 < G → z < B (k + 1)) → F z = hld (fa k + fx k * nI (z - B k))
/-- the samples behind n, beginning at a, a step d from one to the next -/
def extF (F : Nat → Int32) (n : Nat) (a d : Int32) : Nat → Int32 := fun z => if z < n then F z else hld (a + nI (z - n) * d)
theorem segR_s {n G c : Nat} {B : Nat → Nat} {fa fx fb F : Nat → Int32} (hB : segB n G B fb) (h : segR n G B fa fx F) (a d : Int32) : segR (n + c) (G + 1) (fun k => if k = G then n else B k) (upd fa G a) (upd fx G d) (extF F n a d) := by
  intro k hk z h1 h2 h3
  dsimp only at h1 h3 ⊢
  by_cases e : k = G
  · subst e
    rw [if_pos rfl] at h1 ⊢
    rw [pk_us, pk_us]
    unfold extF
    rw [if_neg (by omega), Int32.mul_comm]
  · rw [if_neg e] at h1 ⊢
    rw [pk_un e, pk_un e]
    have hz : z < n := by
      have h4 := h3 (by omega)
      by_cases e2 : k + 1 = G
      · rw [if_pos e2] at h4; exact h4
      · rw [if_neg e2] at h4
        have := (hB.2.2 (k + 1) (by omega)).2
        omega
    unfold extF
    rw [if_pos hz]
    refine h k (by omega) z h1 hz (fun h5 => ?_)
    have h4 := h3 (by omega)
    rw [if_neg (by omega)] at h4
    exact h4
theorem segB_s {n G c : Nat} {B : Nat → Nat} {fb : Nat → Int32} (h : segB n G B fb) (hc : 0 < c) : segB (n + c) (G + 1) (fun k => if k = G then n else B k) (upd fb G (nI n)) := by
  refine ⟨fun _ => ?_, fun _ => by omega, fun k hk => ?_⟩
  · dsimp only
    by_cases e : 0 = G
    · rw [if_pos e]
      apply Classical.byContradiction
      intro q
      have := h.2.1 (by omega)
      omega
    · rw [if_neg e]; exact h.1 (by omega)
  · dsimp only
    by_cases e : k = G
    · subst e; rw [if_pos rfl, pk_us]; exact ⟨rfl, by omega⟩
    · rw [if_neg e, pk_un e]
      obtain ⟨h1, h2⟩ := h.2.2 k (by omega)
      exact ⟨h1, by omega⟩
theorem extF_rng {F1 F2 : Nat → Int32} (h : pRng F1 F2) (n : Nat) (a b da db : Int32) : pRng (extF F1 n a da) (extF F2 n b db) := by
  intro z
  unfold extF
  split
  · exact h z
  · exact ⟨rIn_hld _, rIn_hld _⟩
theorem extF_lt (F : Nat → Int32) (n : Nat) (a d : Int32) (z : Nat) (h : z < n) : extF F n a d z = F z := if_pos h
theorem extF_ge (F : Nat → Int32) (n : Nat) (a d : Int32) (j : Nat) : extF F n a d (n + j) = hld (a + nI j * d) := by
  unfold extF
  rw [if_neg (by omega), show n + j - n = j by omega]
