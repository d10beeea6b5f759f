/-! what the wrappers answer of a record that there is, and of none -/
theorem jpos_iff (tk : Int32) (x : Int64) : jpos tk x ↔ 0 ≤ x.toInt ∧ x.toInt < tk.toInt := by
  unfold jpos
  rw [lg_cmp_lt, lg_cmp_lt, Int64.lt_iff_toInt_lt, Int64.lt_iff_toInt_lt, Int32.toInt_toInt64, show (0 : Int64).toInt = 0 from rfl]
  omega
theorem jpos_in {nn pos : Nat} (hn : nn ≤ 49) (hp : pos < nn) : jpos (nI nn) (nI pos).toInt64 := by
  rw [jpos_iff, Int32.toInt_toInt64, nI_toInt (by omega), nI_toInt (by omega)]; omega
theorem jpos_out {nn : Nat} {x : Int32} (hn : nn ≤ 49) (hp : x.toInt < 0 ∨ nn ≤ x.toInt) : ¬ jpos (nI nn) x.toInt64 := by
  rw [jpos_iff, Int32.toInt_toInt64, nI_toInt (by omega)]; omega
theorem jpos_gp {s k : Nat} (hs : s ≤ 19) (hk : k ≤ 49) : ((nI s).toInt64 * (nI k).toInt64).toInt = (s * k : Nat) := by
  have h1 : s * k ≤ 19 * 49 := Nat.mul_le_mul hs hk
  have e : ((s : Int) * (k : Int)) = ((s * k : Nat) : Int) := by rw [Int.natCast_mul]
  rw [Int64.toInt_mul, Int32.toInt_toInt64, Int32.toInt_toInt64, nI_toInt (by omega), nI_toInt (by omega), e]
  exact Int.bmod_eq_of_le (by omega) (by omega)
theorem jpos_gm {s : Nat} (hs1 : 1 ≤ s) (hs : s ≤ 19) : ((nI s).toInt64 * (-1 : Int32).toInt64).toInt = -(s : Int) := by
  rw [Int64.toInt_mul, Int32.toInt_toInt64, Int32.toInt_toInt64, nI_toInt (by omega), show (-1 : Int32).toInt = -1 from by decide, Int.bmod_eq_of_le (by omega) (by omega)]
  omega
theorem jin01 : jin 0 0 1 ∧ jin 1 0 1 ∧ ¬ jin 2 0 1 := ⟨⟨by decide, by decide⟩, ⟨by decide, by decide⟩, fun h => absurd h.2 (by decide)⟩
theorem jin02 : jin 0 0 2 ∧ ¬ jin 3 0 2 := ⟨⟨by decide, by decide⟩, fun h => absurd h.2 (by decide)⟩
theorem jrec_in {M : Nat → Int32} {m8 rr : Nat} (hM1 : M 1 = nI m8) (hm8 : m8 ≤ 8) (hrr : rr < m8) : jrec (M 1) (nI rr) := by
  rw [hM1]; exact ⟨nI_pos (by omega), nI_lt hrr (by omega)⟩
theorem jrec_no {M : Nat → Int32} {m8 : Nat} (hM1 : M 1 = nI m8) : ¬ jrec (M 1) (nI m8) ∧ ¬ jrec (M 1) (-1) := by
  rw [hM1]; exact ⟨fun h => Int32.lt_irrefl h.2, fun h => absurd h.1 (by decide)⟩
theorem wv_in {M : Nat → Int32} {K : Nat → JCap} {m8 rr nn : Nat} (hM1 : M 1 = nI m8) (hm8 : m8 ≤ 8) (hrr : rr < m8) (hnn : (K rr).2.2.1 = nI nn) (hn : nn ≤ 49) {ch : Int32} (hch : jin ch 0 1) {pos : Nat} (hp : pos < nn) (a b c d : Int32) : wP (eVal (M 1) (nI rr) (K (nI rr).toNatClampNeg).2.2.1 (nI pos) ch) (jat (K (nI rr).toNatClampNeg) ch (nI pos).toNatClampNeg) a b c d = jat (K rr) ch pos := by
  rw [nI_tn (show rr < 2147483648 by omega), nI_tn (show pos < 2147483648 by omega), hnn]
  exact wP_0 (by unfold eVal; rw [jI_t (jrec_in hM1 hm8 hrr), jI_t (jpos_in hn hp), jI_t hch])
theorem wv_out {M : Nat → Int32} {K : Nat → JCap} {m8 rr nn : Nat} (hM1 : M 1 = nI m8) (hm8 : m8 ≤ 8) (hrr : rr < m8) (hnn : (K rr).2.2.1 = nI nn) (hn : nn ≤ 49) {ch x : Int32} (hp : x.toInt < 0 ∨ nn ≤ x.toInt) (v a b c d : Int32) : wP (eVal (M 1) (nI rr) (K (nI rr).toNatClampNeg).2.2.1 x ch) v a b c d = a := by
  rw [nI_tn (show rr < 2147483648 by omega), hnn]
  exact wP_1 (by unfold eVal; rw [jI_t (jrec_in hM1 hm8 hrr), jI_f (jpos_out hn hp)])
theorem wv_ch {M : Nat → Int32} {K : Nat → JCap} {m8 rr nn : Nat} (hM1 : M 1 = nI m8) (hm8 : m8 ≤ 8) (hrr : rr < m8) (hnn : (K rr).2.2.1 = nI nn) (hn : nn ≤ 49) {ch : Int32} (hch : ¬ jin ch 0 1) {pos : Nat} (hp : pos < nn) (v a b c d : Int32) : wP (eVal (M 1) (nI rr) (K (nI rr).toNatClampNeg).2.2.1 (nI pos) ch) v a b c d = b := by
  rw [nI_tn (show rr < 2147483648 by omega), hnn]
  exact wP_2 (by unfold eVal; rw [jI_t (jrec_in hM1 hm8 hrr), jI_t (jpos_in hn hp), jI_f hch])
theorem wv_no {n x tk pos ch : Int32} (h : ¬ jrec n x) (v a b c d : Int32) : wP (eVal n x tk pos ch) v a b c d = a := wP_1 (by unfold eVal; rw [jI_f h])
/-! groups -/
theorem grp_n (nn s : Nat) (hs : 1 ≤ s) (hn : nn ≤ 49) : ∃ gN : Nat, (nn + s - 1) / s = gN ∧ gN ≤ 49 ∧ (∀ k, k < gN → s * k < nn) ∧ nn ≤ s * gN := by
  have h1 := Nat.div_add_mod (nn + s - 1) s
  have h2 := Nat.mod_lt (nn + s - 1) hs
  refine ⟨(nn + s - 1) / s, rfl, ?_, fun k hk => ?_, by omega⟩
  · apply Nat.div_le_of_le_mul
    have : s * 49 ≥ s + 48 := by omega
    omega
  · have h3 : s * (k + 1) ≤ s * ((nn + s - 1) / s) := Nat.mul_le_mul_left s hk
    rw [Nat.mul_add] at h3
    omega
theorem eGrp_in {M : Nat → Int32} {K : Nat → JCap} {m8 rr nn : Nat} (hM1 : M 1 = nI m8) (hm8 : m8 ≤ 8) (hrr : rr < m8) (hnn : (K rr).2.2.1 = nI nn) (hn : nn ≤ 49) {ch : Int32} (hch : jin ch 0 1) {s k : Nat} (hs1 : 1 ≤ s) (hs : s ≤ 16) (hk : s * k < nn) : eGrp (M 1) (nI rr) (K (nI rr).toNatClampNeg).2.2.1 ch (nI s) (nI k) = 0 := by
  have hk9 : k ≤ 49 := by
    have := Nat.le_mul_of_pos_left k hs1
    omega
  rw [nI_tn (show rr < 2147483648 by omega), hnn]
  unfold eGrp
  rw [jI_t ⟨hch, nI_nlt (a := s) (b := 1) hs1 (by omega), nI_le (b := 16) hs (by decide)⟩, jI_t (jrec_in hM1 hm8 hrr), jI_t]
  rw [jpos_iff, jpos_gp (by omega) hk9, nI_toInt (by omega)]
  omega
theorem wg_out {M : Nat → Int32} {K : Nat → JCap} {m8 rr nn : Nat} (hM1 : M 1 = nI m8) (hm8 : m8 ≤ 8) (hrr : rr < m8) (hnn : (K rr).2.2.1 = nI nn) (hn : nn ≤ 49) {ch : Int32} (hch : jin ch 0 1) {s k : Nat} (hs1 : 1 ≤ s) (hs : s ≤ 16) (hk9 : k ≤ 49) (hk : nn ≤ s * k) (v a b c d : Int32) : wP (eGrp (M 1) (nI rr) (K (nI rr).toNatClampNeg).2.2.1 ch (nI s) (nI k)) v a b c d = b := by
  rw [nI_tn (show rr < 2147483648 by omega), hnn]
  refine wP_2 ?_
  unfold eGrp
  rw [jI_t ⟨hch, nI_nlt (a := s) (b := 1) hs1 (by omega), nI_le (b := 16) hs (by decide)⟩, jI_t (jrec_in hM1 hm8 hrr), jI_f]
  rw [jpos_iff, jpos_gp (by omega) hk9, nI_toInt (by omega)]
  omega
theorem wg_neg {M : Nat → Int32} {K : Nat → JCap} {m8 rr nn : Nat} (hM1 : M 1 = nI m8) (hm8 : m8 ≤ 8) (hrr : rr < m8) (hnn : (K rr).2.2.1 = nI nn) (hn : nn ≤ 49) {ch : Int32} (hch : jin ch 0 1) {s : Nat} (hs1 : 1 ≤ s) (hs : s ≤ 16) (v a b c d : Int32) : wP (eGrp (M 1) (nI rr) (K (nI rr).toNatClampNeg).2.2.1 ch (nI s) (-1)) v a b c d = b := by
  rw [nI_tn (show rr < 2147483648 by omega), hnn]
  refine wP_2 ?_
  unfold eGrp
  rw [jI_t ⟨hch, nI_nlt (a := s) (b := 1) hs1 (by omega), nI_le (b := 16) hs (by decide)⟩, jI_t (jrec_in hM1 hm8 hrr), jI_f]
  rw [jpos_iff, jpos_gm hs1 (by omega), nI_toInt (by omega)]
  omega
theorem wg_bad {n x tk ch sz g : Int32} (h : ¬ (jin ch 0 1 ∧ jin sz 1 16)) (v a b c d : Int32) : wP (eGrp n x tk ch sz g) v a b c d = a := wP_1 (by unfold eGrp; rw [jI_f h])
theorem grp_all {M : Nat → Int32} {K : Nat → JCap} {m8 rr nn : Nat} (hM1 : M 1 = nI m8) (hm8 : m8 ≤ 8) (hrr : rr < m8) (hnn : (K rr).2.2.1 = nI nn) (hn : nn ≤ 49) (hf : ∀ j, j < nn → rIn (jat (K rr) 1 j)) {s k : Nat} (hs1 : 1 ≤ s) (hs : s ≤ 16) (hk : s * k < nn) :
    ∃ lo hi mn : Int32, wP (eGrp (M 1) (nI rr) (K (nI rr).toNatClampNeg).2.2.1 1 (nI s) (nI k)) (cLow (K (nI rr).toNatClampNeg) 1 (nI s) (nI k)) (-200) (-300) 0 0 = lo ∧ wP (eGrp (M 1) (nI rr) (K (nI rr).toNatClampNeg).2.2.1 1 (nI s) (nI k)) (cHigh (K (nI rr).toNatClampNeg) 1 (nI s) (nI k)) (-200) (-300) 0 0 = hi ∧ wP (eGrp (M 1) (nI rr) (K (nI rr).toNatClampNeg).2.2.1 1 (nI s) (nI k)) (cMean (K (nI rr).toNatClampNeg) 1 (nI s) (nI k)) (-200) (-300) 0 0 = mn ∧
      (∀ j, s * k ≤ j → j < s * k + (min (s * k + s) nn - s * k) → ¬ jat (K rr) 1 j < lo ∧ ¬ hi < jat (K rr) 1 j) ∧ ¬ mn < lo ∧ ¬ hi < mn ∧ ¬ jsum (jat (K rr) 1) (min (s * k + s) nn - s * k) (s * k) 0 < mn * nI (min (s * k + s) nn - s * k) ∧ ¬ (mn + 1) * nI (min (s * k + s) nn - s * k) ≤ jsum (jat (K rr) 1) (min (s * k + s) nn - s * k) (s * k) 0 := by
  have hk9 : k ≤ 49 := by
    have := Nat.le_mul_of_pos_left k hs1
    omega
  have e0 := eGrp_in hM1 hm8 hrr hnn hn jin01.2.1 hs1 hs hk
  have er : (nI rr).toNatClampNeg = rr := nI_tn (by omega)
  have es : (nI s).toNatClampNeg = s := nI_tn (by omega)
  have ek : (nI k).toNatClampNeg = k := nI_tn (by omega)
  have en : (nI nn).toNatClampNeg = nn := nI_tn (by omega)
  generalize hN : min (s * k + s) nn - s * k = N
  generalize hp : s * k = p at *
  have hN1 : 1 ≤ N := by omega
  have hN16 : N ≤ 16 := by omega
  have hpN : p + N ≤ nn := by omega
  have el : cLow (K (nI rr).toNatClampNeg) 1 (nI s) (nI k) = jlo (jat (K rr) 1) N p (jat (K rr) 1 p) := by unfold cLow grpN; rw [er, es, ek, hnn, en, hp, hN]
  have eh : cHigh (K (nI rr).toNatClampNeg) 1 (nI s) (nI k) = jhi (jat (K rr) 1) N p (jat (K rr) 1 p) := by unfold cHigh grpN; rw [er, es, ek, hnn, en, hp, hN]
  have em : cMean (K (nI rr).toNatClampNeg) 1 (nI s) (nI k) = jfdiv (jsum (jat (K rr) 1) N p 0) (nI N) := by unfold cMean grpN; rw [er, es, ek, hnn, en, hp, hN, Nat.max_eq_right hN1]
  refine ⟨_, _, _, (wP_0 e0).trans el, (wP_0 e0).trans eh, (wP_0 e0).trans em, ?_⟩
  generalize hff : jat (K rr) 1 = f at *
  have hfr : ∀ j, p ≤ j → j < p + N → rIn (f j) := fun j h1 h2 => hf j (by omega)
  have z := jsum_z N p 0 hfr (by omega) (by rw [show (0 : Int32).toInt = 0 from rfl]; omega) (by rw [show (0 : Int32).toInt = 0 from rfl]; omega)
  rw [show (0 : Int32).toInt = 0 from rfl, Int.zero_add] at z
  obtain ⟨l1, l2⟩ := jlo_le (f := f) N p (f p)
  obtain ⟨g1, g2⟩ := jhi_ge (f := f) N p (f p)
  have hb := zsum_b (f := f) (jlo f N p (f p)).toInt (jhi f N p (f p)).toInt N p (fun j h1 h2 => ⟨l2 j h1 h2, g2 j h1 h2⟩)
  have hb2 := zsum_b (f := f) (-128) 127 N p (fun j h1 h2 => rIn_ti (hfr j h1 h2))
  generalize jlo f N p (f p) = lo at *
  generalize jhi f N p (f p) = hi at *
  generalize jsum f N p 0 = S at *
  rw [← z] at hb hb2
  obtain ⟨m1, m2, m3, m4⟩ := jfdiv_z (x := S) (N := N) (by omega) (by omega) (by omega) (by omega)
  generalize jfdiv S (nI N) = mn at *
  have hNN : (0 : Int) < N := by omega
  have k1 : lo.toInt < mn.toInt + 1 := Int.lt_of_mul_lt_mul_right (a := (N : Int)) (by omega) (by omega)
  have k2 : mn.toInt ≤ hi.toInt := Int.le_of_mul_le_mul_right (a := (N : Int)) (by omega) (by omega)
  have e3 : (mn * nI N).toInt = mn.toInt * N := by
    rw [Int.add_mul] at m2
    rw [Int32.toInt_mul, nI_toInt (by omega), b32 (by omega) (by omega)]
  have e4 : ((mn + 1) * nI N).toInt = (mn.toInt + 1) * N := by
    have e5 : (mn + 1).toInt = mn.toInt + 1 := by rw [Int32.toInt_add, show (1 : Int32).toInt = 1 from rfl, b32 (by omega) (by omega)]
    have m2' := m2
    rw [Int.add_mul] at m2'
    rw [Int32.toInt_mul, nI_toInt (by omega), e5, b32 (by rw [Int.add_mul]; omega) (by rw [Int.add_mul]; omega)]
  refine ⟨fun j h1 h2 => ⟨?_, ?_⟩, ?_, ?_, ?_, ?_⟩
  · rw [ti_lt]; have := l2 j h1 h2; omega
  · rw [ti_lt]; have := g2 j h1 h2; omega
  · rw [ti_lt]; omega
  · rw [ti_lt]; omega
  · rw [ti_lt, e3]; omega
  · rw [ti_le, e4]; omega
/-! measurements of the first channel -/
theorem eSrc_0 {M : Nat → Int32} {K : Nat → JCap} {m8 rr nn : Nat} (hM1 : M 1 = nI m8) (hm8 : m8 ≤ 8) (hrr : rr < m8) (hnn : (K rr).2.2.1 = nI nn) (hn : nn ≤ 49) (ht : Int32) : eSrc (M 1) (nI rr) 0 ht = 0 := by
  unfold eSrc
  rw [jI_t (jrec_in hM1 hm8 hrr), jI_t jin02.1, if_neg (by decide)]
theorem wm_bad {M : Nat → Int32} {m8 rr : Nat} (hM1 : M 1 = nI m8) (hm8 : m8 ≤ 8) (hrr : rr < m8) (ht v a b c d : Int32) : wP (eSrc (M 1) (nI rr) 3 ht) v a b c d = b := wP_2 (by unfold eSrc; rw [jI_t (jrec_in hM1 hm8 hrr), jI_f jin02.2])
theorem wm_no {n x src ht : Int32} (h : ¬ jrec n x) (v a b c d : Int32) : wP (eSrc n x src ht) v a b c d = a := wP_1 (by unfold eSrc; rw [jI_f h])
theorem row_c {M : Nat → Int32} {K : Nat → JCap} {m8 rr nn : Nat} (hM1 : M 1 = nI m8) (hm8 : m8 ≤ 8) (hrr : rr < m8) (hnn : (K rr).2.2.1 = nI nn) (hn : nn ≤ 49) (KA DA RW ST CA : Nat → Int32) (pn : Nat) (j : Nat) (hj : j < nn) : (rowOf KA DA pn 0 (K (nI rr).toNatClampNeg) RW ST CA).1 j = jat (K rr) 0 j := by
  rw [nI_tn (show rr < 2147483648 by omega)]
  exact crow (by decide) j (by rw [hnn, nI_tn (by omega)]; exact hj)
theorem wm_lo {M : Nat → Int32} {K : Nat → JCap} {m8 rr nn : Nat} (hM1 : M 1 = nI m8) (hm8 : m8 ≤ 8) (hrr : rr < m8) (hnn : (K rr).2.2.1 = nI nn) (hn : nn ≤ 49) (hn1 : 1 ≤ nn) (hf : ∀ j, j < nn → rIn (jat (K rr) 0 j)) (KA DA RW ST CA : Nat → Int32) (pn : Nat) (ht a b c d : Int32) : wP (eSrc (M 1) (nI rr) 0 ht) (rowLo (rowOf KA DA pn 0 (K (nI rr).toNatClampNeg) RW ST CA).1 (K (nI rr).toNatClampNeg).2.2.1) a b c d = jlo (jat (K rr) 0) nn 0 127 := by
  rw [wP_0 (eSrc_0 hM1 hm8 hrr hnn hn ht)]
  have hr := row_c hM1 hm8 hrr hnn hn KA DA RW ST CA pn
  unfold rowLo
  rw [hr 0 (by omega), nI_tn (show rr < 2147483648 by omega), hnn, nI_tn (show nn < 2147483648 by omega)]
  rw [nI_tn (show rr < 2147483648 by omega)] at hr
  rw [jlo_c (g := jat (K rr) 0) (nn - 1) 1 _ (fun j h1 h2 => hr j (by omega))]
  have e : jmin 127 (jat (K rr) 0 0) = jat (K rr) 0 0 := by
    have h1 := rIn_ti (hf 0 (by omega))
    apply ti_eq.mpr
    rw [jmin_ti, show (127 : Int32).toInt = 127 from by decide]; omega
  rw [show nn = (nn - 1) + 1 by omega, jlo, e]
  rfl
theorem wm_hi {M : Nat → Int32} {K : Nat → JCap} {m8 rr nn : Nat} (hM1 : M 1 = nI m8) (hm8 : m8 ≤ 8) (hrr : rr < m8) (hnn : (K rr).2.2.1 = nI nn) (hn : nn ≤ 49) (hn1 : 1 ≤ nn) (hf : ∀ j, j < nn → rIn (jat (K rr) 0 j)) (KA DA RW ST CA : Nat → Int32) (pn : Nat) (ht a b c d : Int32) : wP (eSrc (M 1) (nI rr) 0 ht) (rowHi (rowOf KA DA pn 0 (K (nI rr).toNatClampNeg) RW ST CA).1 (K (nI rr).toNatClampNeg).2.2.1) a b c d = jhi (jat (K rr) 0) nn 0 (-128) := by
  rw [wP_0 (eSrc_0 hM1 hm8 hrr hnn hn ht)]
  have hr := row_c hM1 hm8 hrr hnn hn KA DA RW ST CA pn
  unfold rowHi
  rw [hr 0 (by omega), nI_tn (show rr < 2147483648 by omega), hnn, nI_tn (show nn < 2147483648 by omega)]
  rw [nI_tn (show rr < 2147483648 by omega)] at hr
  rw [jhi_c (g := jat (K rr) 0) (nn - 1) 1 _ (fun j h1 h2 => hr j (by omega))]
  have e : jmax (-128) (jat (K rr) 0 0) = jat (K rr) 0 0 := by
    have h1 := rIn_ti (hf 0 (by omega))
    apply ti_eq.mpr
    rw [jmax_ti, show (-128 : Int32).toInt = -128 from by decide]; omega
  rw [show nn = (nn - 1) + 1 by omega, jhi, e]
  rfl
theorem wm_cr {M : Nat → Int32} {K : Nat → JCap} {m8 rr nn : Nat} (hM1 : M 1 = nI m8) (hm8 : m8 ≤ 8) (hrr : rr < m8) (hnn : (K rr).2.2.1 = nI nn) (hn : nn ≤ 49) (hn1 : 1 ≤ nn) (KA DA RW ST CA : Nat → Int32) (pn : Nat) (lv ht a b c d : Int32) : wP (eSrc (M 1) (nI rr) 0 ht) (nI (rowN (rowOf KA DA pn 0 (K (nI rr).toNatClampNeg) RW ST CA).1 lv (K (nI rr).toNatClampNeg).2.2.1)) a b c d = nI (jcrN (jat (K rr) 0) lv (nn - 1)) := by
  rw [wP_0 (eSrc_0 hM1 hm8 hrr hnn hn ht)]
  have hr := row_c hM1 hm8 hrr hnn hn KA DA RW ST CA pn
  rw [nI_tn (show rr < 2147483648 by omega)] at hr ⊢
  unfold rowN
  rw [hnn, nI_tn (show nn < 2147483648 by omega), jcrN_c (g := jat (K rr) 0) (nn - 1) (fun j hj => hr j (by omega))]
theorem eRis_0 {M : Nat → Int32} {K : Nat → JCap} {m8 rr nn : Nat} (hM1 : M 1 = nI m8) (hm8 : m8 ≤ 8) (hrr : rr < m8) (hnn : (K rr).2.2.1 = nI nn) (hn : nn ≤ 49) (ht : Int32) (z : Option Int32) : eRise (M 1) (nI rr) 0 (-3) 4 ht z = if z = none then 4 else 0 := by
  have h0 : eRis0 (M 1) (nI rr) 0 (-3) 4 ht = 0 := by
    unfold eRis0
    rw [jI_t (jrec_in hM1 hm8 hrr), jI_t jin02.1, if_pos (by decide), if_neg (by decide)]
  unfold eRise
  rw [if_pos h0]
theorem wm_ri {M : Nat → Int32} {K : Nat → JCap} {m8 rr nn : Nat} (hM1 : M 1 = nI m8) (hm8 : m8 ≤ 8) (hrr : rr < m8) (hnn : (K rr).2.2.1 = nI nn) (hn : nn ≤ 49) (KA DA RW ST CA : Nat → Int32) (pn : Nat) (ht a b c d : Int32) : wP (eRise (M 1) (nI rr) 0 (-3) 4 ht (rowRise (rowOf KA DA pn 0 (K (nI rr).toNatClampNeg) RW ST CA).1 (-3) 4 (K (nI rr).toNatClampNeg).2.2.1)) ((rowRise (rowOf KA DA pn 0 (K (nI rr).toNatClampNeg) RW ST CA).1 (-3) 4 (K (nI rr).toNatClampNeg).2.2.1).getD 0) a b c d = (jrise (jat (K rr) 0) (-3) 4 nn 0 (-1)).getD d := by
  have hr := row_c hM1 hm8 hrr hnn hn KA DA RW ST CA pn
  rw [eRis_0 hM1 hm8 hrr hnn hn]
  have e : rowRise (rowOf KA DA pn 0 (K (nI rr).toNatClampNeg) RW ST CA).1 (-3) 4 (K (nI rr).toNatClampNeg).2.2.1 = jrise (jat (K rr) 0) (-3) 4 nn 0 (-1) := by
    rw [nI_tn (show rr < 2147483648 by omega)] at hr ⊢
    unfold rowRise
    rw [hnn, nI_tn (show nn < 2147483648 by omega), jrise_c (g := jat (K rr) 0) nn 0 _ (fun j h1 h2 => hr j (by omega))]
  rw [e]
  cases jrise (jat (K rr) 0) (-3) 4 nn 0 (-1) with
  | none => exact wP_4 (if_pos rfl)
  | some w => exact wP_0 (if_neg (by simp))
theorem wm_ri4 {M : Nat → Int32} {m8 rr : Nat} (hM1 : M 1 = nI m8) (hm8 : m8 ≤ 8) (hrr : rr < m8) (ht v a b c d : Int32) (z : Option Int32) : wP (eRise (M 1) (nI rr) 0 4 4 ht z) v a b c d = b := by
  have h0 : eRis0 (M 1) (nI rr) 0 4 4 ht = 2 := by
    unfold eRis0
    rw [jI_t (jrec_in hM1 hm8 hrr), jI_t jin02.1, if_neg (by decide)]
  exact wP_2 (by unfold eRise; rw [if_neg (by rw [h0]; decide), h0])
theorem wm_avg {M : Nat → Int32} {K : Nat → JCap} {m8 rr nn : Nat} (hM1 : M 1 = nI m8) (hm8 : m8 ≤ 8) (hrr : rr < m8) (hnn : (K rr).2.2.1 = nI nn) (hn : nn ≤ 49) (hn1 : 1 ≤ nn) (KA DA RW ST CA : Nat → Int32) (pn : Nat) : rowAvg (rowOf KA DA pn 0 (K (nI rr).toNatClampNeg) RW ST CA).1 (K (nI rr).toNatClampNeg).2.2.1 = FP.ddiv (FP.i2d (jsum (jat (K rr) 0) nn 0 0)) (FP.i2d (nI nn)) := by
  have hr := row_c hM1 hm8 hrr hnn hn KA DA RW ST CA pn
  rw [nI_tn (show rr < 2147483648 by omega)] at hr ⊢
  unfold rowAvg
  rw [hnn, nI_tn (show nn < 2147483648 by omega), jsum_c (g := jat (K rr) 0) nn 0 _ (fun j h1 h2 => hr j (by omega)), Nat.max_eq_right hn1]
theorem ws_in {M : Nat → Int32} {K : Nat → JCap} {m8 rr nn : Nat} (hM1 : M 1 = nI m8) (hm8 : m8 ≤ 8) (hrr : rr < m8) (hnn : (K rr).2.2.1 = nI nn) (hn : nn ≤ 49) (ci : Nat) (G : Nat → Int32) (a b c d : Int32) : wP (eRec (M 1) (nI rr)) (nI (jscanN ci (K (nI rr).toNatClampNeg) (cNew ci G) (K (nI rr).toNatClampNeg).2.2.1.toNatClampNeg)) a b c d = nI (jscanN ci (K rr) (cNew ci G) nn) := by
  rw [nI_tn (show rr < 2147483648 by omega), hnn, nI_tn (show nn < 2147483648 by omega)]
  exact wP_0 (by unfold eRec; rw [jI_t (jrec_in hM1 hm8 hrr)])
theorem ws_no {n x : Int32} (h : ¬ jrec n x) (v a b c d : Int32) : wP (eRec n x) v a b c d = a := wP_1 (by unfold eRec; rw [jI_f h])
theorem eRec_in {M : Nat → Int32} {m8 rr : Nat} (hM1 : M 1 = nI m8) (hm8 : m8 ≤ 8) (hrr : rr < m8) : eRec (M 1) (nI rr) = 0 := by unfold eRec; rw [jI_t (jrec_in hM1 hm8 hrr)]
/-! a rise -/
def riseI (f : Nat → Int32) (nn k : Nat) (la du : Int32) : Prop := (du = -2000000005 ∧ (la = -1 ∨ ∃ j : Nat, j < k ∧ la = nI j) ∧ jrise f (-3) 4 nn 0 (-1) = jrise f (-3) 4 (nn - k) k la) ∨ (¬ du < 0 ∧ jrise f (-3) 4 nn 0 (-1) = some du)
theorem riseI_0 (f : Nat → Int32) (nn : Nat) : riseI f nn 0 (-1) (-2000000005) := Or.inl ⟨rfl, Or.inl rfl, rfl⟩
theorem riseI_s {f : Nat → Int32} {nn k : Nat} {la du : Int32} (h : riseI f nn k la du) (hd : du < 0) (hk : k < nn) (hn : nn ≤ 49) : riseI f nn (k + 1) (if f k ≤ -3 then nI k else la) (if 0 ≤ la ∧ 4 ≤ f k then nI k - la else du) := by
  rcases h with ⟨h1, h2, h3⟩ | ⟨h1, -⟩
  · rw [show nn - k = (nn - (k + 1)) + 1 by omega, jrise] at h3
    by_cases c : 4 ≤ f k ∧ la ≠ -1
    · rw [if_pos c] at h3
      obtain ⟨j, hj, rfl⟩ := h2.resolve_left c.2
      have e1 : (if 0 ≤ nI j ∧ 4 ≤ f k then nI k - nI j else du) = nI k - nI j := if_pos ⟨nI_pos' (by omega), c.1⟩
      rw [e1]
      refine Or.inr ⟨?_, h3⟩
      rw [pk_sub (by omega)]
      exact nI_pos (by omega)
    · rw [if_neg c] at h3
      have e1 : (if 0 ≤ la ∧ 4 ≤ f k then nI k - la else du) = du := if_neg (fun q => c ⟨q.2, fun z => by rw [z] at q; exact absurd q.1 (by decide)⟩)
      rw [e1]
      refine Or.inl ⟨h1, ?_, h3⟩
      by_cases c2 : f k ≤ -3
      · rw [if_pos c2]; exact Or.inr ⟨k, by omega, rfl⟩
      · rw [if_neg c2]; exact h2.imp id (fun ⟨j, y1, y2⟩ => ⟨j, by omega, y2⟩)
  · exact absurd hd h1
theorem riseI_e {f : Nat → Int32} {nn k : Nat} {la du : Int32} (h : riseI f nn k la du) (he : nn ≤ k ∨ 0 ≤ du) : (jrise f (-3) 4 nn 0 (-1)).getD (-2000000005) = du := by
  rcases h with ⟨h1, h2, h3⟩ | ⟨h1, h2⟩
  · rcases he with he | he
    · rw [h3, show nn - k = 0 by omega, h1]; rfl
    · rw [h1] at he; exact absurd he (by decide)
  · rw [h2]; rfl
