/-! the trace of the first record, and what is asked of records that aren't there -/
def zf0 : Nat → Int32 := fun _ => 0
def tR (KA DA : Nat → Int32) (pn : Nat) (kr : JCap) : Nat → Int32 := (rowOf KA DA pn 2 kr zf0 zf0 zf0).1
theorem z0n : (0 : Int32).toNatClampNeg = 0 := by decide
theorem tR_in {KA DA : Nat → Int32} {pn nn : Nat} {kr : JCap} (hnn : kr.2.2.1 = nI nn) (hn : nn ≤ 49) (hp1 : 1 ≤ pn) (hpn : pn ≤ 16) (hD : ∀ z, z < pn → i6 (DA z)) (hf : ∀ j, j < nn → rIn (jat kr 0 j)) (hf1 : ∀ j, j < nn → rIn (jat kr 1 j)) (RW ST CA : Nat → Int32) (j : Nat) (hj : j < nn) : (rowOf KA DA pn 2 kr RW ST CA).1 j = tR KA DA pn kr j ∧ i6 (tR KA DA pn kr j) := by
  have e : kr.2.2.1.toNatClampNeg = nn := by rw [hnn, nI_tn (by omega)]
  have h := fun (R S C R' S' C' : Nat → Int32) => trow (KA := KA) (DA := DA) (RW := R) (ST := S) (CA := C) (RW' := R') (ST' := S') (CA' := C') (kr := kr) hp1 hpn hD (fun j hj => ⟨by rw [← jat0]; exact hf j (by omega), by rw [← jat1]; exact hf1 j (by omega)⟩) j (by omega)
  exact ⟨(h RW ST CA zf0 zf0 zf0).1, (h zf0 zf0 zf0 zf0 zf0 zf0).2⟩
theorem jhi_i6 {f : Nat → Int32} : ∀ (d i : Nat) (acc : Int32), i6 acc → (∀ j, i ≤ j → j < i + d → i6 (f j)) → i6 (jhi f d i acc)
  | 0, _, _, h, _ => h
  | d + 1, i, acc, h, hf => by
    rw [jhi]
    refine jhi_i6 d (i + 1) _ ?_ (fun j h1 h2 => hf j (by omega) (by omega))
    unfold jmax
    by_cases c : acc < f i
    · rw [if_pos c]; exact hf i (Nat.le_refl _) (by omega)
    · rw [if_neg c]; exact h
theorem i6_n10 {x : Int32} (h : i6 x) : ¬ x = -2000000010 := fun e => by
  rw [e] at h
  exact absurd h.1 (by decide)
theorem i6_lo {x : Int32} (h : i6 x) : ¬ x < -1000000 := by
  rw [ti_lt, show (-1000000 : Int32).toInt = -1000000 from by decide]
  have := h.1; omega
theorem i6_hi {x : Int32} (h : i6 x) : ¬ 1000000 < x := by
  rw [ti_lt, show (1000000 : Int32).toInt = 1000000 from by decide]
  have := h.2; omega
theorem jin22 : jin 2 0 2 := ⟨by decide, by decide⟩
theorem jrec_0 {M : Nat → Int32} {m8 : Nat} (hM1 : M 1 = nI m8) (hm8 : m8 ≤ 8) (h0 : 0 < m8) : jrec (M 1) 0 := jrec_in hM1 hm8 h0
theorem jpos_z {nn : Nat} (hn : nn ≤ 49) (hn1 : 1 ≤ nn) : jpos (nI nn) (Int32.toInt64 0) := jpos_in (pos := 0) hn hn1
theorem wt_told {M : Nat → Int32} {K : Nat → JCap} {m8 nn : Nat} (hM1 : M 1 = nI m8) (hm8 : m8 ≤ 8) (h0 : 0 < m8) (hnn : (K 0).2.2.1 = nI nn) (hn : nn ≤ 49) (hn1 : 1 ≤ nn) {ht : Int32} (hht : ht = 1) (v a b c d : Int32) : wP (eTrace (M 1) 0 (K (0 : Int32).toNatClampNeg).2.2.1 0 ht) v a b c d = v := by
  refine wP_0 ?_
  rw [z0n, hnn]
  unfold eTrace
  rw [jI_t (jrec_0 hM1 hm8 h0), jI_t (jpos_z hn hn1), if_pos hht]
theorem wt_none {M : Nat → Int32} {K : Nat → JCap} {m8 nn : Nat} (hM1 : M 1 = nI m8) (hm8 : m8 ≤ 8) (h0 : 0 < m8) (hnn : (K 0).2.2.1 = nI nn) (hn : nn ≤ 49) (hn1 : 1 ≤ nn) {ht : Int32} (hht : ¬ ht = 1) (v a b c d : Int32) : wP (eTrace (M 1) 0 (K (0 : Int32).toNatClampNeg).2.2.1 0 ht) v a b c d = b := by
  refine wP_2 ?_
  rw [z0n, hnn]
  unfold eTrace
  rw [jI_t (jrec_0 hM1 hm8 h0), jI_t (jpos_z hn hn1), if_neg hht]
theorem wt_out {M : Nat → Int32} {K : Nat → JCap} {m8 nn : Nat} (hM1 : M 1 = nI m8) (hm8 : m8 ≤ 8) (h0 : 0 < m8) (hnn : (K 0).2.2.1 = nI nn) (hn : nn ≤ 49) (ht v a b c d : Int32) : wP (eTrace (M 1) 0 (K (0 : Int32).toNatClampNeg).2.2.1 (nI nn) ht) v a b c d = a := by
  refine wP_1 ?_
  rw [z0n, hnn]
  unfold eTrace
  rw [jI_t (jrec_0 hM1 hm8 h0), jI_f (jpos_out hn (Or.inr (by rw [nI_toInt (by omega)]; omega)))]
theorem wt_no {n x tk pos ht : Int32} (h : ¬ jrec n x) (v a b c d : Int32) : wP (eTrace n x tk pos ht) v a b c d = a := wP_1 (by unfold eTrace; rw [jI_f h])
theorem eSrc_2 {M : Nat → Int32} {m8 : Nat} (hM1 : M 1 = nI m8) (hm8 : m8 ≤ 8) (h0 : 0 < m8) (ht : Int32) : eSrc (M 1) 0 2 ht = if ht = 1 then 0 else 3 := by
  unfold eSrc
  rw [jI_t (jrec_0 hM1 hm8 h0), jI_t jin22, if_pos rfl]
theorem wq_none {M : Nat → Int32} {m8 : Nat} (hM1 : M 1 = nI m8) (hm8 : m8 ≤ 8) (h0 : 0 < m8) {ht : Int32} (hht : ¬ ht = 1) (v a b c d : Int32) : wP (eSrc (M 1) 0 2 ht) v a b c d = c := wP_3 (by rw [eSrc_2 hM1 hm8 h0, if_neg hht])
theorem wq_row {M : Nat → Int32} {m8 : Nat} (hM1 : M 1 = nI m8) (hm8 : m8 ≤ 8) (h0 : 0 < m8) {ht : Int32} (hht : ht = 1) (v a b c d : Int32) : wP (eSrc (M 1) 0 2 ht) v a b c d = v := wP_0 (by rw [eSrc_2 hM1 hm8 h0, if_pos hht])
/-- what the trace of the first record answers where it is -/
theorem t_all {K : Nat → JCap} {KA DA : Nat → Int32} {pn nn : Nat} (hnn : (K 0).2.2.1 = nI nn) (hn : nn ≤ 49) (hn1 : 1 ≤ nn) (hp1 : 1 ≤ pn) (hpn : pn ≤ 16) (hD : ∀ z, z < pn → i6 (DA z)) (hf : ∀ j, j < nn → rIn (jat (K 0) 0 j)) (hf1 : ∀ j, j < nn → rIn (jat (K 0) 1 j)) :
    ∃ tv lo hi : Int32, (∀ RW ST CA : Nat → Int32, (rowOf KA DA pn 2 (K (0 : Int32).toNatClampNeg) RW ST CA).1 (0 : Int32).toNatClampNeg = tv) ∧ (∀ RW ST CA : Nat → Int32, rowLo (rowOf KA DA pn 2 (K (0 : Int32).toNatClampNeg) RW ST CA).1 (K (0 : Int32).toNatClampNeg).2.2.1 = lo) ∧ (∀ RW ST CA : Nat → Int32, rowHi (rowOf KA DA pn 2 (K (0 : Int32).toNatClampNeg) RW ST CA).1 (K (0 : Int32).toNatClampNeg).2.2.1 = hi) ∧ i6 tv ∧ i6 hi ∧ ¬ tv < lo ∧ ¬ hi < tv := by
  have hT := tR_in (KA := KA) (kr := K 0) hnn hn hp1 hpn hD hf hf1
  rw [z0n]
  have en : (nI nn).toNatClampNeg = nn := nI_tn (by omega)
  refine ⟨tR KA DA pn (K 0) 0, jlo (tR KA DA pn (K 0)) (nn - 1) 1 (tR KA DA pn (K 0) 0), jhi (tR KA DA pn (K 0)) (nn - 1) 1 (tR KA DA pn (K 0) 0), fun R S C => (hT R S C 0 (by omega)).1, fun R S C => ?_, fun R S C => ?_, (hT zf0 zf0 zf0 0 (by omega)).2, ?_, ?_, ?_⟩
  · unfold rowLo
    rw [hnn, en, (hT R S C 0 (by omega)).1]
    exact jlo_c (nn - 1) 1 _ (fun j h1 h2 => (hT R S C j (by omega)).1)
  · unfold rowHi
    rw [hnn, en, (hT R S C 0 (by omega)).1]
    exact jhi_c (nn - 1) 1 _ (fun j h1 h2 => (hT R S C j (by omega)).1)
  · exact jhi_i6 (nn - 1) 1 _ (hT zf0 zf0 zf0 0 (by omega)).2 (fun j h1 h2 => (hT zf0 zf0 zf0 j (by omega)).2)
  · rw [ti_lt]
    have := (jlo_le (f := tR KA DA pn (K 0)) (nn - 1) 1 (tR KA DA pn (K 0) 0)).1
    omega
  · rw [ti_lt]
    have := (jhi_ge (f := tR KA DA pn (K 0)) (nn - 1) 1 (tR KA DA pn (K 0) 0)).1
    omega
theorem nI_m {k : Nat} (hk : k < 2147483648) {x : Int32} (hx : x < 0) : ¬ nI k = x := fun e => nI_pos hk (e ▸ hx)
theorem off_1 {M : Nat → Int32} (h : M 10 = -1) (a b c d : Int32) : wP (eOff (M 10)) (M 10) a b c d = a := wP_1 (by unfold eOff; rw [if_pos h])
theorem off_0 {M : Nat → Int32} {k : Nat} (h : M 10 = nI k) (hk : k < 2147483648) (a b c d : Int32) : wP (eOff (M 10)) (M 10) a b c d = nI k := by
  rw [← h]
  refine wP_0 ?_
  unfold eOff
  rw [if_neg (by rw [h]; exact nI_m hk (by decide))]
