/-! what is asked of a record, both sides -/
theorem tk_of {r : Nat} {K : Nat → JCap} {CU LN TG : Nat → Int32} (h : cmpR r K CU LN TG) (hr : r ≤ 8) (x : Int32) (hx : jrec (nI r) x) : (K x.toNatClampNeg).2.2.1 = LN x.toNatClampNeg ∧ (K x.toNatClampNeg).1 = TG x.toNatClampNeg := by
  obtain ⟨i, hi, rfl⟩ := jrec_nat hx hr
  rw [nI_tn (by omega)]
  obtain ⟨k, g1, g2, g3, g4, g5, g6⟩ := cmp_col h hi
  exact ⟨g2.trans g1.symm, g5⟩
theorem eVal_tk {n x tk tk' pos ch : Int32} (h : jrec n x → tk = tk') : eVal n x tk pos ch = eVal n x tk' pos ch := by
  by_cases c : jrec n x
  · rw [h c]
  · unfold eVal; rw [jI_f c, jI_f c]
theorem eTrace_tk {n x tk tk' pos ht : Int32} (h : jrec n x → tk = tk') : eTrace n x tk pos ht = eTrace n x tk' pos ht := by
  by_cases c : jrec n x
  · rw [h c]
  · unfold eTrace; rw [jI_f c, jI_f c]
theorem eGrp_tk {n x tk tk' ch sz g : Int32} (h : jrec n x → tk = tk') : eGrp n x tk ch sz g = eGrp n x tk' ch sz g := by
  by_cases c : jrec n x
  · rw [h c]
  · unfold eGrp
    by_cases c2 : jin ch 0 1 ∧ jin sz 1 16
    · rw [jI_t c2, jI_t c2, jI_f c, jI_f c]
    · rw [jI_f c2, jI_f c2]
theorem tr_of {r : Nat} {K : Nat → JCap} {CU LN TG : Nat → Int32} (h : cmpR r K CU LN TG) {i : Nat} (hi : i < r) {KA DA PT ON TW SK : Nat → Int32} {pn ht : Nat} (hE : expR KA DA PT ON TW SK pn ht) (TC : Nat → Int32) :
    ∃ k : Nat, LN i = nI k ∧ (K i).2.2.1 = nI k ∧ 1 ≤ k ∧ k ≤ 49 ∧ trOK KA DA (K i).2.2.2.1 (K i).2.2.2.2 PT ON TW CU (wall CU PT ON TW i k TC pn) i pn k := by
  obtain ⟨k, g1, g2, g3, g4, g5, g6⟩ := cmp_col h hi
  refine ⟨k, g1, g2, g3, g4, hE.1, g4, hE.2.2.2, fun a j ha hj => wall_fix TC g4 hE.1 (fun z hz => parR_ok (hE.2.2.2 z hz)) ha hj, fun j hj => ?_⟩
  have a0 := g6 0 (by decide) j hj
  have a1 := g6 1 (by decide) j hj
  exact ⟨a0.1, a1.1, a0.2, a1.2⟩
theorem row_eq {r : Nat} {K : Nat → JCap} {CU LN TG : Nat → Int32} (h : cmpR r K CU LN TG) (hr : r ≤ 8) {R KA DA PT ON TW SK : Nat → Int32} {pn ht : Nat} (hE : expR KA DA PT ON TW SK pn ht) (hpn : R 37 = nI pn) {x src : Int32} (he : eSrc (nI r) x src (nI ht) = 0) (RW ST CA TC : Nat → Int32) :
    ∃ k : Nat, LN x.toNatClampNeg = nI k ∧ (K x.toNatClampNeg).2.2.1 = nI k ∧ 1 ≤ k ∧ k ≤ 49 ∧ ∀ j, j < k → (rowOf KA DA pn src (K x.toNatClampNeg) RW ST CA).1 j = mAsk R CU LN PT ON TW SK TC x src j := by
  have hht : ht ≤ 16 := by have := (skx_le KA pn).1; have := hE.1; have := hE.2.1; omega
  obtain ⟨i, s1, hi, rfl, hs1, rfl, hd⟩ := eSrc_inv he hr hht
  obtain ⟨k, g1, g2, g3, g4, hT⟩ := tr_of h hi hE TC
  have hp := hE.1
  rw [nI_tn (by omega)]
  refine ⟨k, g1, g2, g3, g4, fun j hj => ?_⟩
  unfold rowOf mAsk mrow mTrc
  rw [nI_tn (by omega), nI_tn (by omega), g1, g2, nI_tn (by omega), hpn, nI_tn (by omega)]
  by_cases c : s1 = 2
  · have hd1 := hd c
    subst c
    rw [if_pos (show nI 2 = 2 from rfl), if_neg (by decide)]
    have h1 : (skx KA pn).1 = 1 := by rw [hE.2.1, hd1]
    have hs := (skx_le KA pn).2 0 (by omega)
    rw [hE.2.2.1 0 (by omega), nI_tn (by omega)]
    exact (tr_fill hT (by omega) RW ST CA k (Nat.le_refl _)).2 j hj
  · rw [if_neg (fun q : nI s1 = 2 => c (jeq_of (a := s1) (b := 2) q (by omega) (by decide))), if_pos (show s1 < 2 by omega)]
    show jcopy _ k RW j = _
    unfold jcopy
    rw [if_pos hj]
    obtain ⟨k', f1, f2, f3, f4, f5, f6⟩ := cmp_col h hi
    have : k' = k := by
      have := f1.symm.trans g1
      exact jeq_of (a := k') (b := k) this (by omega) (by omega)
    subst this
    exact (f6 s1 (by omega) j hj).1
theorem trace_eq {r : Nat} {K : Nat → JCap} {CU LN TG : Nat → Int32} (h : cmpR r K CU LN TG) (hr : r ≤ 8) {R KA DA PT ON TW SK : Nat → Int32} {pn ht : Nat} (hE : expR KA DA PT ON TW SK pn ht) (hpn : R 37 = nI pn) {x ps : Int32} (he : eTrace (nI r) x (LN x.toNatClampNeg) ps (nI ht) = 0) (RW ST CA TC : Nat → Int32) :
    (rowOf KA DA pn 2 (K x.toNatClampNeg) RW ST CA).1 ps.toNatClampNeg = mTrc R CU LN PT ON TW TC x (49 * (SK 0).toNatClampNeg + ps.toNatClampNeg) := by
  have hht : ht ≤ 16 := by have := (skx_le KA pn).1; have := hE.1; have := hE.2.1; omega
  have hp := hE.1
  rw [eTrace_m] at he
  by_cases h1 : mPl (nI r) LN x ps = 0
  · rw [if_pos h1] at he; exact absurd he (by decide)
  rw [if_neg h1] at he
  have hd1 : ht = 1 := by
    by_cases h3 : nI ht = 1
    · exact jeq_of (a := ht) (b := 1) h3 (by omega) (by decide)
    · rw [if_neg h3] at he; exact absurd he (by decide)
  obtain ⟨p1, p2, p3⟩ := mPl_inv h1
  obtain ⟨i, hi, rfl⟩ := jrec_nat ((jrec_iff _ _).mpr p1) hr
  obtain ⟨k, g1, g2, g3, g4, hT⟩ := tr_of h hi hE TC
  unfold mTrc rowOf
  rw [nI_tn (by omega)] at p3 ⊢
  rw [g1] at p3
  obtain ⟨j, hj, rfl⟩ := jpos_int ((jpos_iff _ _).mpr ⟨p2, p3⟩) g4
  rw [if_pos rfl, nI_tn (by omega), g1, g2, nI_tn (by omega), hpn, nI_tn (by omega)]
  have h1 : (skx KA pn).1 = 1 := by rw [hE.2.1, hd1]
  have hs := (skx_le KA pn).2 0 (by omega)
  rw [hE.2.2.1 0 (by omega), nI_tn (by omega)]
  exact (tr_fill hT (by omega) RW ST CA k (Nat.le_refl _)).2 j hj
/-! rows that agree answer alike -/
theorem rowLo_eq {f g : Nat → Int32} {k : Nat} (h1 : 1 ≤ k) (hk : k ≤ 49) (h : ∀ j, j < k → f j = g j) : rowLo f (nI k) = rowLo g (nI k) := by
  unfold rowLo
  rw [nI_tn (by omega), h 0 (by omega)]
  exact jlo_congr _ _ _ _ _ (fun j p q => h j (by omega))
theorem rowHi_eq {f g : Nat → Int32} {k : Nat} (h1 : 1 ≤ k) (hk : k ≤ 49) (h : ∀ j, j < k → f j = g j) : rowHi f (nI k) = rowHi g (nI k) := by
  unfold rowHi
  rw [nI_tn (by omega), h 0 (by omega)]
  exact jhi_congr _ _ _ _ _ (fun j p q => h j (by omega))
theorem rowAvg_eq {f g : Nat → Int32} {k : Nat} (h1 : 1 ≤ k) (hk : k ≤ 49) (h : ∀ j, j < k → f j = g j) : rowAvg f (nI k) = rowAvg g (nI k) := by
  unfold rowAvg
  rw [nI_tn (by omega), jsum_congr f g k 0 0 (fun j p q => h j (by omega))]
theorem jcr_eq {f g : Nat → Int32} {k : Nat} (lv : Int32) (h : ∀ j, j < k → f j = g j) (j : Nat) (hj : j < k) : jcr f lv j = jcr g lv j := by
  unfold jcr
  rw [h j hj, h (j - 1) (by omega)]
theorem jcrN_eq {f g : Nat → Int32} {k : Nat} (lv : Int32) (h : ∀ j, j < k → f j = g j) (n : Nat) (hn : n < k) : jcrN f lv n = jcrN g lv n ∧ jcrF f lv n = jcrF g lv n ∧ jcrL f lv n = jcrL g lv n := by
  induction n with
  | zero => exact ⟨rfl, rfl, rfl⟩
  | succ n ih =>
    obtain ⟨i1, i2, i3⟩ := ih (by omega)
    rw [jcrN, jcrN, jcrF, jcrF, jcrL, jcrL, jcr_eq lv h (n + 1) hn, i1, i2, i3]
    exact ⟨rfl, rfl, rfl⟩
theorem rowN_eq {f g : Nat → Int32} {k : Nat} (lv : Int32) (h1 : 1 ≤ k) (hk : k ≤ 49) (h : ∀ j, j < k → f j = g j) : rowN f lv (nI k) = rowN g lv (nI k) := by
  unfold rowN
  rw [nI_tn (by omega)]
  exact (jcrN_eq lv h (k - 1) (by omega)).1
theorem rowPer_eq {f g : Nat → Int32} {k : Nat} (lv : Int32) (h1 : 1 ≤ k) (hk : k ≤ 49) (h : ∀ j, j < k → f j = g j) : rowPer f lv (nI k) = rowPer g lv (nI k) := by
  unfold rowPer
  obtain ⟨a, b, c⟩ := jcrN_eq lv h (k - 1) (by omega)
  rw [nI_tn (by omega), a, b, c]
theorem jrise_eq {f g : Nat → Int32} (lo hi : Int32) (d : Nat) : ∀ (i : Nat) (la : Int32), (∀ j, i ≤ j → j < i + d → f j = g j) → jrise f lo hi d i la = jrise g lo hi d i la := by
  induction d with
  | zero => intro i la h; rfl
  | succ d ih =>
    intro i la h
    rw [jrise, jrise, h i (by omega) (by omega), ih (i + 1) _ (fun j a b => h j (by omega) (by omega))]
theorem rowRise_eq {f g : Nat → Int32} {k : Nat} (lo hi : Int32) (h1 : 1 ≤ k) (hk : k ≤ 49) (h : ∀ j, j < k → f j = g j) : rowRise f lo hi (nI k) = rowRise g lo hi (nI k) := by
  unfold rowRise
  rw [nI_tn (by omega)]
  exact jrise_eq lo hi k 0 _ (fun j a b => h j (by omega))
