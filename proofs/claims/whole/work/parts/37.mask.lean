/-- the traces behind j places of part i, behind i parts -/
def wrow (CU PT ON TW : Nat → Int32) (r i : Nat) (TC : Nat → Int32) : Nat → (Nat → Int32)
  | 0 => TC
  | j + 1 => upd (wrow CU PT ON TW r i TC j) (49 * i + j) (tPart CU PT ON TW (wrow CU PT ON TW r i TC j) r i j)
def wall (CU PT ON TW : Nat → Int32) (r kk : Nat) (TC : Nat → Int32) : Nat → (Nat → Int32)
  | 0 => TC
  | i + 1 => wrow CU PT ON TW r i (wall CU PT ON TW r kk TC i) kk
theorem wrow_0 (CU PT ON TW : Nat → Int32) (r i : Nat) (TC : Nat → Int32) : wrow CU PT ON TW r i TC 0 = TC := rfl
theorem wrow_s (CU PT ON TW : Nat → Int32) (r i : Nat) (TC : Nat → Int32) (j : Nat) : wrow CU PT ON TW r i TC (j + 1) = upd (wrow CU PT ON TW r i TC j) (49 * i + j) (tPart CU PT ON TW (wrow CU PT ON TW r i TC j) r i j) := rfl
theorem wall_0 (CU PT ON TW : Nat → Int32) (r kk : Nat) (TC : Nat → Int32) : wall CU PT ON TW r kk TC 0 = TC := rfl
theorem wall_s (CU PT ON TW : Nat → Int32) (r kk : Nat) (TC : Nat → Int32) (i : Nat) : wall CU PT ON TW r kk TC (i + 1) = wrow CU PT ON TW r i (wall CU PT ON TW r kk TC i) kk := rfl
/-- the values of a source -/
def mrow (CU TC : Nat → Int32) (i0 r s1 : Nat) : Nat → Int32 := fun j => if s1 < 2 then mcol CU r s1 j else TC (49 * i0 + j)
def mTrc (R CU LN PT ON TW TC : Nat → Int32) (x : Int32) : Nat → Int32 := wall CU PT ON TW x.toNatClampNeg (LN x.toNatClampNeg).toNatClampNeg TC (R 37).toNatClampNeg
/-- the row of a source that is asked for -/
def mAsk (R CU LN PT ON TW SK TC : Nat → Int32) (x src : Int32) : Nat → Int32 := mrow CU (mTrc R CU LN PT ON TW TC x) (SK 0).toNatClampNeg x.toNatClampNeg src.toNatClampNeg
set_option maxHeartbeats 8000000 in
set_option maxRecDepth 100000 in
theorem k_X11_works (l : Launch) (t : Nat → ClassId) (hfl : l.stackTraces = false) (m0 : Nat) (mb : Nat → Nat) (R : Nat → Int32) (CU : Nat → Int32) (LN : Nat → Int32) (PT : Nat → Int32) (ON : Nat → Int32) (TW : Nat → Int32) (TC : Nat → Int32) (r : Nat) (kk : Nat) (pn : Nat) (hr : r < 8) (hkk : LN r = nI kk) (hk49 : kk ≤ 49) (hpn : R 37 = nI pn) (hp9 : pn ≤ 16) (hOK : ∀ z, z < pn → pOK PT ON TW z) : jKx l t yX11_works (Cond.code yX11_works cX11_works 4 none :: jWS) { frames := 3, cells := 0, slots := 0, locals := 80 } [.ref m0, .int (nI r)] [(m0, .inr (10, jmdl R mb)), ((mb 2), .inl (t 0, 784, .inl CU)), ((mb 3), .inl (t 0, 8, .inl LN)), ((mb 8), .inl (t 0, 16, .inl PT)), ((mb 9), .inl (t 0, 16, .inl ON)), ((mb 10), .inl (t 0, 16, .inl TW)), ((mb 12), .inl (t 0, 784, .inl TC))] (fun vv uu => (vv = none ∧ uu = [(m0, .inr (10, jmdl R mb)), ((mb 2), .inl (t 0, 784, .inl CU)), ((mb 3), .inl (t 0, 8, .inl LN)), ((mb 8), .inl (t 0, 16, .inl PT)), ((mb 9), .inl (t 0, 16, .inl ON)), ((mb 10), .inl (t 0, 16, .inl TW)), ((mb 12), .inl (t 0, 784, .inl (wall CU PT ON TW r kk TC pn)))])) (fun _ _ => False) := by
  refine jK_of hfl (by decide +kernel) (Nat.le_of_ble_eq_true rfl) ?_
  intro p e s m args below meth c D A Q CC MM
  refine jr_norm0 [(0, .ref m0), (1, .int (nI r))] rfl ?_
  refine jr_iconst (v := 0) CC (jd ddX11_works 0 rfl) (by decide) ?_
  refine jr_istore_n 2 [(2, .int 0), (0, .ref m0), (1, .int (nI r))] CC (jd ddX11_works 1 rfl) rfl (by decide) rfl ?_
  have hL1 : ∀ (d9 : Nat) (i : Nat) (hi9 : i ≤ pn), pn - i < d9 → J p l e { frames := 3, cells := 0, slots := 0, locals := 80 } s m args below meth c D A 4 Q [(m0, .inr (10, jmdl R mb)), ((mb 2), .inl (t 0, 784, .inl CU)), ((mb 3), .inl (t 0, 8, .inl LN)), ((mb 8), .inl (t 0, 16, .inl PT)), ((mb 9), .inl (t 0, 16, .inl ON)), ((mb 10), .inl (t 0, 16, .inl TW)), ((mb 12), .inl (t 0, 784, .inl (wall CU PT ON TW r kk TC i)))] [(0, .ref m0), (1, .int (nI r)), (2, .int (nI i))] 2 [] 0 0 := by
    intro d9
    induction d9 with
    | zero => intro i hi9 hmu; exact absurd hmu (Nat.not_lt_zero _)
    | succ d9 ih2 =>
      intro i hi9 hmu
      refine jr_iload_n CC (jd ddX11_works 2 rfl) 2 rfl ?_
      refine jr_aload_n CC (jd ddX11_works 3 rfl) 0 rfl ?_
      refine jr_get (v := .int (R 37)) CC (jd ddX11_works 4 rfl) (jf_X11_205 CC) 0 rfl rfl ?_
      refine jr_st [.int (nI pn), .int (nI i)] (jst1 hpn) ?_
      refine jr_icmp_ge 52 CC (jd ddX11_works 5 rfl) (by decide) (fun c2 => ?_) (fun c2 => ?_)
      · have n2 := jle_of (a := pn) (b := i) c2 (by omega) (by omega)
        exact jr_vret CC MM (jd ddX11_works 31 rfl) rfl (by decide) (by decide) (by have e9 : i = pn := (by omega); subst e9; exact ⟨rfl, rfl⟩)
      · have n2 := jle_not (a := pn) (b := i) c2 (by omega) (by omega)
        refine jr_ws [(m0, .inr (10, jmdl R mb)), ((mb 2), .inl (t 0, 784, .inl CU)), ((mb 3), .inl (t 0, 8, .inl LN)), ((mb 8), .inl (t 0, 16, .inl PT)), ((mb 9), .inl (t 0, 16, .inl ON)), ((mb 10), .inl (t 0, 16, .inl TW)), ((mb 12), .inl (t 0, 784, .inl (wrow CU PT ON TW r i (wall CU PT ON TW r kk TC i) 0)))] (by rw [wrow_0]) ?_
        refine jr_iconst (v := 0) CC (jd ddX11_works 6 rfl) (by decide) ?_
        refine jr_istore_n 3 [(3, .int 0), (0, .ref m0), (1, .int (nI r)), (2, .int (nI i))] CC (jd ddX11_works 7 rfl) rfl (by decide) rfl ?_
        have hL3 : ∀ (d9 : Nat) (j : Nat) (hj9 : j ≤ kk), kk - j < d9 → J p l e { frames := 3, cells := 0, slots := 0, locals := 80 } s m args below meth c D A 4 Q [(m0, .inr (10, jmdl R mb)), ((mb 2), .inl (t 0, 784, .inl CU)), ((mb 3), .inl (t 0, 8, .inl LN)), ((mb 8), .inl (t 0, 16, .inl PT)), ((mb 9), .inl (t 0, 16, .inl ON)), ((mb 10), .inl (t 0, 16, .inl TW)), ((mb 12), .inl (t 0, 784, .inl (wrow CU PT ON TW r i (wall CU PT ON TW r kk TC i) j)))] [(0, .ref m0), (1, .int (nI r)), (2, .int (nI i)), (3, .int (nI j))] 12 [] 0 0 := by
          intro d9
          induction d9 with
          | zero => intro j hj9 hmu; exact absurd hmu (Nat.not_lt_zero _)
          | succ d9 ih12 =>
            intro j hj9 hmu
            refine jr_iload_n CC (jd ddX11_works 8 rfl) 3 rfl ?_
            refine jr_aload_n CC (jd ddX11_works 9 rfl) 0 rfl ?_
            refine jr_get (v := .ref (mb 3)) CC (jd ddX11_works 10 rfl) (jf_X11_33 CC) 0 rfl rfl ?_
            refine jr_iload_n CC (jd ddX11_works 11 rfl) 1 rfl ?_
            refine jr_ialdN CC (jd ddX11_works 12 rfl) 2 r rfl rfl (by omega) (by decide) ?_
            refine jr_st [.int (nI kk), .int (nI j)] (jst1 hkk) ?_
            refine jr_icmp_ge 46 CC (jd ddX11_works 13 rfl) (by decide) (fun c4 => ?_) (fun c4 => ?_)
            · have n4 := jle_of (a := kk) (b := j) c4 (by omega) (by omega)
              refine jr_iinc [(2, .int (nI (i + 1))), (0, .ref m0), (1, .int (nI r)), (3, .int (nI j))] CC (jd ddX11_works 29 rfl) 2 rfl (nI_1 _) (by decide) rfl ?_
              refine jr_goto 2 CC (jd ddX11_works 30 rfl) (by decide) ?_
              refine jr_ws [(m0, .inr (10, jmdl R mb)), ((mb 2), .inl (t 0, 784, .inl CU)), ((mb 3), .inl (t 0, 8, .inl LN)), ((mb 8), .inl (t 0, 16, .inl PT)), ((mb 9), .inl (t 0, 16, .inl ON)), ((mb 10), .inl (t 0, 16, .inl TW)), ((mb 12), .inl (t 0, 784, .inl (wall CU PT ON TW r kk TC (i + 1))))] (by rw [wall_s, show kk = j by omega] <;> rfl) ?_
              refine jr_norm [(m0, .inr (10, jmdl R mb)), ((mb 2), .inl (t 0, 784, .inl CU)), ((mb 3), .inl (t 0, 8, .inl LN)), ((mb 8), .inl (t 0, 16, .inl PT)), ((mb 9), .inl (t 0, 16, .inl ON)), ((mb 10), .inl (t 0, 16, .inl TW)), ((mb 12), .inl (t 0, 784, .inl (wall CU PT ON TW r kk TC (i + 1))))] [] 2 0 0 rfl rfl rfl rfl rfl ?_
              refine jr_lv [1, 2, 0] [(0, .ref m0), (1, .int (nI r)), (2, .int (nI (i + 1)))] rfl ?_
              exact ih2 (i + 1) (by omega) (by omega)
            · have n4 := jle_not (a := kk) (b := j) c4 (by omega) (by omega)
              refine jr_aload_n CC (jd ddX11_works 14 rfl) 0 rfl ?_
              refine jr_get (v := .ref (mb 12)) CC (jd ddX11_works 15 rfl) (jf_X11_61 CC) 0 rfl rfl ?_
              refine jr_bipush (v := 49) CC (jd ddX11_works 16 rfl) (by decide) ?_
              refine jr_iload_n CC (jd ddX11_works 17 rfl) 2 rfl ?_
              refine jr_pc (pc' := 29) rfl ?_
              refine jr_imul CC (jd ddX11_works 18 rfl) ?_
              refine jr_st [.int (nI (49 * i)), .ref (mb 12)] (jst1 (pk_mul 49 i)) ?_
              refine jr_iload_n CC (jd ddX11_works 19 rfl) 3 rfl ?_
              refine jr_iadd CC (jd ddX11_works 20 rfl) ?_
              refine jr_st [.int (nI ((49 * i) + j)), .ref (mb 12)] (jst1 (nI_add (49 * i) j)) ?_
              refine jr_aload_n CC (jd ddX11_works 21 rfl) 0 rfl ?_
              refine jr_iload_n CC (jd ddX11_works 22 rfl) 2 rfl ?_
              refine jr_iload_n CC (jd ddX11_works 23 rfl) 1 rfl ?_
              refine jr_iload_n CC (jd ddX11_works 24 rfl) 3 rfl ?_
              refine jr_callV (q0 := 0) (rest := [.int (nI ((49 * i) + j)), .ref (mb 12)]) [.int (nI i), .int (nI r), .int (nI j)] CC (jd ddX11_works 25 rfl) (jy_X11_224 CC) (k_X11_tellsPart_u l t hfl m0 mb R CU PT ON TW (wrow CU PT ON TW r i (wall CU PT ON TW r kk TC i) j) r i j hr (by omega) (by omega) (hOK i (by omega))) [0, 1, 3, 4, 5, 6] rfl (by decide) rfl rfl rfl rfl (by decide) (Nat.le_of_ble_eq_true rfl) (by rintro v u h; rcases h with ⟨rfl, rfl⟩ <;> exact (show ([m0, (mb 2), (mb 8), (mb 9), (mb 10), (mb 12)] : List Nat) = [m0, (mb 2), (mb 8), (mb 9), (mb 10), (mb 12)] from rfl)) (fun _ _ h => h.elim) (fun _ _ h => h.elim) (fun v u h => ?_)
              rcases h with ⟨rfl, rfl⟩
              refine jr_norm [(m0, .inr (10, jmdl R mb)), ((mb 2), .inl (t 0, 784, .inl CU)), ((mb 3), .inl (t 0, 8, .inl LN)), ((mb 8), .inl (t 0, 16, .inl PT)), ((mb 9), .inl (t 0, 16, .inl ON)), ((mb 10), .inl (t 0, 16, .inl TW)), ((mb 12), .inl (t 0, 784, .inl (wrow CU PT ON TW r i (wall CU PT ON TW r kk TC i) j)))] [.int (tPart CU PT ON TW (wrow CU PT ON TW r i (wall CU PT ON TW r kk TC i) j) r i j), .int (nI ((49 * i) + j)), .ref (mb 12)] 39 0 0 rfl rfl rfl rfl rfl ?_
              refine jr_iastN CC (jd ddX11_works 26 rfl) 6 ((49 * i) + j) rfl rfl (by omega) (by decide) ?_
              refine jr_iinc [(3, .int (nI (j + 1))), (0, .ref m0), (1, .int (nI r)), (2, .int (nI i))] CC (jd ddX11_works 27 rfl) 3 rfl (nI_1 _) (by decide) rfl ?_
              refine jr_goto 12 CC (jd ddX11_works 28 rfl) (by decide) ?_
              refine jr_ws [(m0, .inr (10, jmdl R mb)), ((mb 2), .inl (t 0, 784, .inl CU)), ((mb 3), .inl (t 0, 8, .inl LN)), ((mb 8), .inl (t 0, 16, .inl PT)), ((mb 9), .inl (t 0, 16, .inl ON)), ((mb 10), .inl (t 0, 16, .inl TW)), ((mb 12), .inl (t 0, 784, .inl (wrow CU PT ON TW r i (wall CU PT ON TW r kk TC i) (j + 1))))] (by rw [wrow_s] <;> rfl) ?_
              refine jr_norm [(m0, .inr (10, jmdl R mb)), ((mb 2), .inl (t 0, 784, .inl CU)), ((mb 3), .inl (t 0, 8, .inl LN)), ((mb 8), .inl (t 0, 16, .inl PT)), ((mb 9), .inl (t 0, 16, .inl ON)), ((mb 10), .inl (t 0, 16, .inl TW)), ((mb 12), .inl (t 0, 784, .inl (wrow CU PT ON TW r i (wall CU PT ON TW r kk TC i) (j + 1))))] [] 12 0 0 rfl rfl rfl rfl rfl ?_
              refine jr_lv [1, 2, 3, 0] [(0, .ref m0), (1, .int (nI r)), (2, .int (nI i)), (3, .int (nI (j + 1)))] rfl ?_
              exact ih12 (j + 1) (by omega) (by omega)
        refine jr_norm [(m0, .inr (10, jmdl R mb)), ((mb 2), .inl (t 0, 784, .inl CU)), ((mb 3), .inl (t 0, 8, .inl LN)), ((mb 8), .inl (t 0, 16, .inl PT)), ((mb 9), .inl (t 0, 16, .inl ON)), ((mb 10), .inl (t 0, 16, .inl TW)), ((mb 12), .inl (t 0, 784, .inl (wrow CU PT ON TW r i (wall CU PT ON TW r kk TC i) 0)))] [] 12 0 0 rfl rfl rfl rfl rfl ?_
        refine jr_lv [1, 2, 3, 0] [(0, .ref m0), (1, .int (nI r)), (2, .int (nI i)), (3, .int (nI 0))] rfl ?_
        exact hL3 (kk - 0 + 1) 0 (Nat.zero_le _) (Nat.lt_succ_self _)
  refine jr_norm [(m0, .inr (10, jmdl R mb)), ((mb 2), .inl (t 0, 784, .inl CU)), ((mb 3), .inl (t 0, 8, .inl LN)), ((mb 8), .inl (t 0, 16, .inl PT)), ((mb 9), .inl (t 0, 16, .inl ON)), ((mb 10), .inl (t 0, 16, .inl TW)), ((mb 12), .inl (t 0, 784, .inl (wall CU PT ON TW r kk TC 0)))] [] 2 0 0 rfl rfl rfl rfl rfl ?_
  refine jr_lv [1, 2, 0] [(0, .ref m0), (1, .int (nI r)), (2, .int (nI 0))] rfl ?_
  exact hL1 (pn - 0 + 1) 0 (Nat.zero_le _) (Nat.lt_succ_self _)
theorem eTrace_m (n : Int32) (LN : Nat → Int32) (x ps ht : Int32) : eTrace n x (LN x.toNatClampNeg) ps ht = if mPl n LN x ps = 0 then 1 else if ht = 1 then 0 else 2 := by
  unfold eTrace mPl
  simp only [jrec_iff, jpos_iff]
  by_cases h1 : mRec n x = 0
  · simp [h1, jI]
  · by_cases h2 : ps < 0
    · simp [h1, h2, jI]
    · by_cases h3 : LN x.toNatClampNeg ≤ ps
      · simp [h1, h2, h3, jI]
      · simp [h1, h2, h3, jI]
set_option maxHeartbeats 8000000 in
set_option maxRecDepth 100000 in
theorem k_X11_trace (l : Launch) (t : Nat → ClassId) (hfl : l.stackTraces = false) (m0 : Nat) (mb : Nat → Nat) (R : Nat → Int32) (CU : Nat → Int32) (LN : Nat → Int32) (PT : Nat → Int32) (ON : Nat → Int32) (TW : Nat → Int32) (SK : Nat → Int32) (TC : Nat → Int32) (m8 : Nat) (pn : Nat) (dn : Nat) (x : Int32) (ps : Int32) (h28 : R 28 = nI m8) (hm8 : m8 ≤ 8) (hLN : lenOK LN m8) (hpn : R 37 = nI pn) (hp9 : pn ≤ 16) (hdn : R 41 = nI dn) (hd9 : dn ≤ 16) (hOK : ∀ z, z < pn → pOK PT ON TW z) (hS : dn = 1 → ∃ i0 : Nat, SK 0 = nI i0 ∧ i0 < 16) : jKx l t yX11_trace (Cond.code yX11_trace cX11_trace 3 (some .int) :: jWS) { frames := 4, cells := 0, slots := 0, locals := 103 } [.ref m0, .int x, .int ps] [(m0, .inr (10, jmdl R mb)), ((mb 2), .inl (t 0, 784, .inl CU)), ((mb 3), .inl (t 0, 8, .inl LN)), ((mb 8), .inl (t 0, 16, .inl PT)), ((mb 9), .inl (t 0, 16, .inl ON)), ((mb 10), .inl (t 0, 16, .inl TW)), ((mb 11), .inl (t 0, 16, .inl SK)), ((mb 12), .inl (t 0, 784, .inl TC))] (fun vv uu => (((eTrace (R 28) x (LN x.toNatClampNeg) ps (nI dn)) = 0) ∧ vv = some (.int ((mTrc R CU LN PT ON TW TC x) (49 * (SK 0).toNatClampNeg + ps.toNatClampNeg))) ∧ uu = [(m0, .inr (10, jmdl (upd R 44 0) mb)), ((mb 2), .inl (t 0, 784, .inl CU)), ((mb 3), .inl (t 0, 8, .inl LN)), ((mb 8), .inl (t 0, 16, .inl PT)), ((mb 9), .inl (t 0, 16, .inl ON)), ((mb 10), .inl (t 0, 16, .inl TW)), ((mb 11), .inl (t 0, 16, .inl SK)), ((mb 12), .inl (t 0, 784, .inl (mTrc R CU LN PT ON TW TC x)))]) ∨ (((eTrace (R 28) x (LN x.toNatClampNeg) ps (nI dn)) = 1) ∧ vv = some (.int 0) ∧ uu = [(m0, .inr (10, jmdl (upd R 44 1) mb)), ((mb 2), .inl (t 0, 784, .inl CU)), ((mb 3), .inl (t 0, 8, .inl LN)), ((mb 8), .inl (t 0, 16, .inl PT)), ((mb 9), .inl (t 0, 16, .inl ON)), ((mb 10), .inl (t 0, 16, .inl TW)), ((mb 11), .inl (t 0, 16, .inl SK)), ((mb 12), .inl (t 0, 784, .inl TC))]) ∨ (((eTrace (R 28) x (LN x.toNatClampNeg) ps (nI dn)) = 2) ∧ vv = some (.int 0) ∧ uu = [(m0, .inr (10, jmdl (upd R 44 2) mb)), ((mb 2), .inl (t 0, 784, .inl CU)), ((mb 3), .inl (t 0, 8, .inl LN)), ((mb 8), .inl (t 0, 16, .inl PT)), ((mb 9), .inl (t 0, 16, .inl ON)), ((mb 10), .inl (t 0, 16, .inl TW)), ((mb 11), .inl (t 0, 16, .inl SK)), ((mb 12), .inl (t 0, 784, .inl TC))])) (fun _ _ => False) := by
  refine jK_of hfl (by decide +kernel) (Nat.le_of_ble_eq_true rfl) ?_
  intro p e s m args below meth c D A Q CC MM
  refine jr_norm0 [(0, .ref m0), (1, .int x), (2, .int ps)] rfl ?_
  refine jr_aload_n CC (jd ddX11_trace 0 rfl) 0 rfl ?_
  refine jr_aload_n CC (jd ddX11_trace 1 rfl) 0 rfl ?_
  refine jr_iload_n CC (jd ddX11_trace 2 rfl) 1 rfl ?_
  refine jr_iload_n CC (jd ddX11_trace 3 rfl) 2 rfl ?_
  refine jr_callV (q0 := 0) (rest := [.ref m0]) [.int x, .int ps] CC (jd ddX11_trace 4 rfl) (jy_X11_192 CC) (k_X11_isPlace l t hfl m0 mb R LN m8 x ps h28 hm8) [0, 2] rfl (by decide) rfl rfl rfl rfl (by decide) (Nat.le_of_ble_eq_true rfl) (by rintro v u h; rcases h with ⟨rfl, rfl⟩ <;> exact (show ([m0, (mb 3)] : List Nat) = [m0, (mb 3)] from rfl)) (fun _ _ h => h.elim) (fun _ _ h => h.elim) (fun v u h => ?_)
  rcases h with ⟨rfl, rfl⟩
  refine jr_norm [(m0, .inr (10, jmdl R mb)), ((mb 2), .inl (t 0, 784, .inl CU)), ((mb 3), .inl (t 0, 8, .inl LN)), ((mb 8), .inl (t 0, 16, .inl PT)), ((mb 9), .inl (t 0, 16, .inl ON)), ((mb 10), .inl (t 0, 16, .inl TW)), ((mb 11), .inl (t 0, 16, .inl SK)), ((mb 12), .inl (t 0, 784, .inl TC))] [.int (mPl (R 28) LN x ps), .ref m0] 7 0 0 rfl rfl rfl rfl rfl ?_
  refine jr_if_ne 14 CC (jd ddX11_trace 5 rfl) (by decide) (fun c1 => ?_) (fun c1 => ?_)
  · refine jr_aload_n CC (jd ddX11_trace 8 rfl) 0 rfl ?_
    refine jr_get (v := .int (R 41)) CC (jd ddX11_trace 9 rfl) (jf_X11_208 CC) 0 rfl rfl ?_
    refine jr_st [.int (nI dn), .ref m0] (jst1 hdn) ?_
    refine jr_iconst (v := 1) CC (jd ddX11_trace 10 rfl) (by decide) ?_
    refine jr_icmp_ne 26 CC (jd ddX11_trace 11 rfl) (by decide) (fun c2 => ?_) (fun c2 => ?_)
    · refine jr_iconst (v := 2) CC (jd ddX11_trace 14 rfl) (by decide) ?_
      refine jr_callV (q0 := 0) (rest := []) [.int 2] CC (jd ddX11_trace 15 rfl) (jy_X11_111 CC) (k_X11_fails_2 l t hfl m0 mb R) [0] rfl (by decide) rfl rfl rfl rfl (by decide) (Nat.le_of_ble_eq_true rfl) (by rintro v u h; rcases h with ⟨rfl, rfl⟩ <;> exact (show ([m0] : List Nat) = [m0] from rfl)) (fun _ _ h => h.elim) (fun _ _ h => h.elim) (fun v u h => ?_)
      rcases h with ⟨rfl, rfl⟩
      refine jr_norm [(m0, .inr (10, jmdl (upd R 44 2) mb)), ((mb 2), .inl (t 0, 784, .inl CU)), ((mb 3), .inl (t 0, 8, .inl LN)), ((mb 8), .inl (t 0, 16, .inl PT)), ((mb 9), .inl (t 0, 16, .inl ON)), ((mb 10), .inl (t 0, 16, .inl TW)), ((mb 11), .inl (t 0, 16, .inl SK)), ((mb 12), .inl (t 0, 784, .inl TC))] [.int 1] 30 0 0 rfl rfl rfl rfl rfl ?_
      refine jr_if_eq 35 CC (jd ddX11_trace 16 rfl) (by decide) (fun h => absurd h (by decide)) (fun _ => ?_)
      refine jr_iconst (v := 0) CC (jd ddX11_trace 17 rfl) (by decide) ?_
      exact jr_iret CC MM (jd ddX11_trace 18 rfl) rfl (by decide) (by decide) (Or.inr (Or.inr ⟨by rw [eTrace_m]; simp [c1, c2], rfl, rfl⟩))
    · refine jr_iconst (v := 0) CC (jd ddX11_trace 12 rfl) (by decide) ?_
      refine jr_goto 27 CC (jd ddX11_trace 13 rfl) (by decide) ?_
      refine jr_callV (q0 := 0) (rest := []) [.int 0] CC (jd ddX11_trace 15 rfl) (jy_X11_111 CC) (k_X11_fails_0 l t hfl m0 mb R) [0] rfl (by decide) rfl rfl rfl rfl (by decide) (Nat.le_of_ble_eq_true rfl) (by rintro v u h; rcases h with ⟨rfl, rfl⟩ <;> exact (show ([m0] : List Nat) = [m0] from rfl)) (fun _ _ h => h.elim) (fun _ _ h => h.elim) (fun v u h => ?_)
      rcases h with ⟨rfl, rfl⟩
      refine jr_norm [(m0, .inr (10, jmdl (upd R 44 0) mb)), ((mb 2), .inl (t 0, 784, .inl CU)), ((mb 3), .inl (t 0, 8, .inl LN)), ((mb 8), .inl (t 0, 16, .inl PT)), ((mb 9), .inl (t 0, 16, .inl ON)), ((mb 10), .inl (t 0, 16, .inl TW)), ((mb 11), .inl (t 0, 16, .inl SK)), ((mb 12), .inl (t 0, 784, .inl TC))] [.int 0] 30 0 0 rfl rfl rfl rfl rfl ?_
      refine jr_if_eq 35 CC (jd ddX11_trace 16 rfl) (by decide) (fun _ => ?_) (fun h => absurd h (by decide))
      have hpl := mPl_inv c1
      obtain ⟨r, hr, rfl⟩ := jrec_nat (h28 ▸ ((jrec_iff _ _).mpr hpl.1)) hm8
      have ntr : (nI r).toNatClampNeg = r := nI_tn (by omega)
      obtain ⟨kk, hkk, hk1, hk49⟩ := hLN r hr
      obtain ⟨j, hj, rfl⟩ := jpos_int (show jpos (nI kk) ps.toInt64 from (jpos_iff _ _).mpr ⟨hpl.2.1, by rw [← hkk, ← ntr]; exact hpl.2.2⟩) hk49
      have ntj : (nI j).toNatClampNeg = j := nI_tn (by omega)
      obtain ⟨i0, hi0, hi9⟩ := hS (jeq_of (a := dn) (b := 1) c2 (by omega) (by decide))
      refine jr_aload_n CC (jd ddX11_trace 19 rfl) 0 rfl ?_
      refine jr_iload_n CC (jd ddX11_trace 20 rfl) 1 rfl ?_
      refine jr_callV (q0 := 0) (rest := []) [.int (nI r)] CC (jd ddX11_trace 21 rfl) (jy_X11_227 CC) (k_X11_works l t hfl m0 mb (upd R 44 0) CU LN PT ON TW TC r kk pn (by first | assumption | omega | decide) (by first | assumption | omega | decide) (by first | assumption | omega | decide) (by simp [upd, hpn]) hp9 hOK) [0, 1, 2, 3, 4, 5, 7] rfl (by decide) rfl rfl rfl rfl (by decide) (Nat.le_of_ble_eq_true rfl) (by rintro v u h; rcases h with ⟨rfl, rfl⟩ <;> exact (show ([m0, (mb 2), (mb 3), (mb 8), (mb 9), (mb 10), (mb 12)] : List Nat) = [m0, (mb 2), (mb 3), (mb 8), (mb 9), (mb 10), (mb 12)] from rfl)) (fun _ _ h => h.elim) (fun _ _ h => h.elim) (fun v u h => ?_)
      rcases h with ⟨rfl, rfl⟩
      refine jr_norm [(m0, .inr (10, jmdl (upd R 44 0) mb)), ((mb 2), .inl (t 0, 784, .inl CU)), ((mb 3), .inl (t 0, 8, .inl LN)), ((mb 8), .inl (t 0, 16, .inl PT)), ((mb 9), .inl (t 0, 16, .inl ON)), ((mb 10), .inl (t 0, 16, .inl TW)), ((mb 11), .inl (t 0, 16, .inl SK)), ((mb 12), .inl (t 0, 784, .inl (wall CU PT ON TW r kk TC pn)))] [] 40 0 0 rfl rfl rfl rfl rfl ?_
      refine jr_aload_n CC (jd ddX11_trace 22 rfl) 0 rfl ?_
      refine jr_get (v := .ref (mb 12)) CC (jd ddX11_trace 23 rfl) (jf_X11_61 CC) 0 rfl rfl ?_
      refine jr_bipush (v := 49) CC (jd ddX11_trace 24 rfl) (by decide) ?_
      refine jr_aload_n CC (jd ddX11_trace 25 rfl) 0 rfl ?_
      refine jr_get (v := .ref (mb 11)) CC (jd ddX11_trace 26 rfl) (jf_X11_58 CC) 0 rfl rfl ?_
      refine jr_iconst (v := 0) CC (jd ddX11_trace 27 rfl) (by decide) ?_
      refine jr_ialdN CC (jd ddX11_trace 28 rfl) 6 0 rfl (by decide) (by decide) (by decide) ?_
      refine jr_st [.int (nI i0), .int 49, .ref (mb 12)] (jst1 hi0) ?_
      refine jr_imul CC (jd ddX11_trace 29 rfl) ?_
      refine jr_st [.int (nI (49 * i0)), .ref (mb 12)] (jst1 (pk_mul 49 i0)) ?_
      refine jr_iload_n CC (jd ddX11_trace 30 rfl) 2 rfl ?_
      refine jr_iadd CC (jd ddX11_trace 31 rfl) ?_
      refine jr_st [.int (nI ((49 * i0) + j)), .ref (mb 12)] (jst1 (nI_add (49 * i0) j)) ?_
      refine jr_pc (pc' := 55) rfl ?_
      refine jr_ialdN CC (jd ddX11_trace 32 rfl) 7 ((49 * i0) + j) rfl rfl (by omega) (by decide) ?_
      exact jr_iret CC MM (jd ddX11_trace 33 rfl) rfl (by decide) (by decide) (Or.inl ⟨by rw [eTrace_m]; simp [c1, c2], by rw [ntj, hi0, nI_tn (show i0 < 2147483648 by omega), mTrc, ntr, hkk, hpn, nI_tn (show kk < 2147483648 by omega), nI_tn (show pn < 2147483648 by omega)], by rw [mTrc, ntr, hkk, hpn, nI_tn (show kk < 2147483648 by omega), nI_tn (show pn < 2147483648 by omega)]⟩)
  · refine jr_iconst (v := 1) CC (jd ddX11_trace 6 rfl) (by decide) ?_
    refine jr_goto 27 CC (jd ddX11_trace 7 rfl) (by decide) ?_
    refine jr_callV (q0 := 0) (rest := []) [.int 1] CC (jd ddX11_trace 15 rfl) (jy_X11_111 CC) (k_X11_fails_1 l t hfl m0 mb R) [0] rfl (by decide) rfl rfl rfl rfl (by decide) (Nat.le_of_ble_eq_true rfl) (by rintro v u h; rcases h with ⟨rfl, rfl⟩ <;> exact (show ([m0] : List Nat) = [m0] from rfl)) (fun _ _ h => h.elim) (fun _ _ h => h.elim) (fun v u h => ?_)
    rcases h with ⟨rfl, rfl⟩
    refine jr_norm [(m0, .inr (10, jmdl (upd R 44 1) mb)), ((mb 2), .inl (t 0, 784, .inl CU)), ((mb 3), .inl (t 0, 8, .inl LN)), ((mb 8), .inl (t 0, 16, .inl PT)), ((mb 9), .inl (t 0, 16, .inl ON)), ((mb 10), .inl (t 0, 16, .inl TW)), ((mb 11), .inl (t 0, 16, .inl SK)), ((mb 12), .inl (t 0, 784, .inl TC))] [.int 1] 30 0 0 rfl rfl rfl rfl rfl ?_
    refine jr_if_eq 35 CC (jd ddX11_trace 16 rfl) (by decide) (fun h => absurd h (by decide)) (fun _ => ?_)
    refine jr_iconst (v := 0) CC (jd ddX11_trace 17 rfl) (by decide) ?_
    exact jr_iret CC MM (jd ddX11_trace 18 rfl) rfl (by decide) (by decide) (Or.inr (Or.inl ⟨by rw [eTrace_m]; simp [c1], rfl, rfl⟩))
set_option maxHeartbeats 8000000 in
set_option maxRecDepth 100000 in
theorem k_X11_of (l : Launch) (t : Nat → ClassId) (hfl : l.stackTraces = false) (m0 : Nat) (mb : Nat → Nat) (R : Nat → Int32) (CU : Nat → Int32) (SK : Nat → Int32) (TC : Nat → Int32) (r : Nat) (s1 : Nat) (j : Nat) (i0 : Nat) (hr : r < 8) (hs1 : s1 ≤ 2) (hj : j < 49) (hS : s1 = 2 → SK 0 = nI i0 ∧ i0 < 16) : jKx l t yX11_of (Cond.code yX11_of cX11_of 4 (some .int) :: jWS) { frames := 1, cells := 0, slots := 0, locals := 23 } [.ref m0, .int (nI r), .int (nI s1), .int (nI j)] [(m0, .inr (10, jmdl R mb)), ((mb 2), .inl (t 0, 784, .inl CU)), ((mb 11), .inl (t 0, 16, .inl SK)), ((mb 12), .inl (t 0, 784, .inl TC))] (fun vv uu => (vv = some (.int (mrow CU TC i0 r s1 j)) ∧ uu = [(m0, .inr (10, jmdl R mb)), ((mb 2), .inl (t 0, 784, .inl CU)), ((mb 11), .inl (t 0, 16, .inl SK)), ((mb 12), .inl (t 0, 784, .inl TC))])) (fun _ _ => False) := by
  refine jK_of hfl (by decide +kernel) (Nat.le_of_ble_eq_true rfl) ?_
  intro p e s m args below meth c D A Q CC MM
  refine jr_norm0 [(0, .ref m0), (1, .int (nI r)), (2, .int (nI s1)), (3, .int (nI j))] rfl ?_
  refine jr_iload_n CC (jd ddX11_of 0 rfl) 2 rfl ?_
  refine jr_iconst (v := 2) CC (jd ddX11_of 1 rfl) (by decide) ?_
  refine jr_icmp_ge 15 CC (jd ddX11_of 2 rfl) (by decide) (fun c1 => ?_) (fun c1 => ?_)
  · have n1 := jle_of (a := 2) (b := s1) c1 (by omega) (by omega)
    have hs2 := hS (by omega)
    have hi0 := hs2.1
    have hi9 := hs2.2
    refine jr_aload_n CC (jd ddX11_of 9 rfl) 0 rfl ?_
    refine jr_get (v := .ref (mb 12)) CC (jd ddX11_of 10 rfl) (jf_X11_61 CC) 0 rfl rfl ?_
    refine jr_bipush (v := 49) CC (jd ddX11_of 11 rfl) (by decide) ?_
    refine jr_aload_n CC (jd ddX11_of 12 rfl) 0 rfl ?_
    refine jr_get (v := .ref (mb 11)) CC (jd ddX11_of 13 rfl) (jf_X11_58 CC) 0 rfl rfl ?_
    refine jr_iconst (v := 0) CC (jd ddX11_of 14 rfl) (by decide) ?_
    refine jr_ialdN CC (jd ddX11_of 15 rfl) 2 0 rfl (by decide) (by decide) (by decide) ?_
    refine jr_st [.int (nI i0), .int 49, .ref (mb 12)] (jst1 hi0) ?_
    refine jr_pc (pc' := 27) rfl ?_
    refine jr_imul CC (jd ddX11_of 16 rfl) ?_
    refine jr_st [.int (nI (49 * i0)), .ref (mb 12)] (jst1 (pk_mul 49 i0)) ?_
    refine jr_iload_n CC (jd ddX11_of 17 rfl) 3 rfl ?_
    refine jr_iadd CC (jd ddX11_of 18 rfl) ?_
    refine jr_st [.int (nI ((49 * i0) + j)), .ref (mb 12)] (jst1 (nI_add (49 * i0) j)) ?_
    refine jr_ialdN CC (jd ddX11_of 19 rfl) 3 ((49 * i0) + j) rfl rfl (by omega) (by decide) ?_
    exact jr_iret CC MM (jd ddX11_of 20 rfl) rfl (by decide) (by decide) ⟨by rw [mrow, if_neg (by omega)], rfl⟩
  · have n1 := jle_not (a := 2) (b := s1) c1 (by omega) (by omega)
    refine jr_aload_n CC (jd ddX11_of 3 rfl) 0 rfl ?_
    refine jr_iload_n CC (jd ddX11_of 4 rfl) 1 rfl ?_
    refine jr_iload_n CC (jd ddX11_of 5 rfl) 2 rfl ?_
    refine jr_iload_n CC (jd ddX11_of 6 rfl) 3 rfl ?_
    refine jr_callV (q0 := 0) (rest := []) [.int (nI r), .int (nI s1), .int (nI j)] CC (jd ddX11_of 7 rfl) (jy_X11_195 CC) (k_X11_at l t hfl m0 mb R CU r s1 j hr (by first | assumption | omega | decide) hj) [0, 1] rfl (by decide) rfl rfl rfl rfl (by decide) (Nat.le_of_ble_eq_true rfl) (by rintro v u h; rcases h with ⟨rfl, rfl⟩ <;> exact (show ([m0, (mb 2)] : List Nat) = [m0, (mb 2)] from rfl)) (fun _ _ h => h.elim) (fun _ _ h => h.elim) (fun v u h => ?_)
    rcases h with ⟨rfl, rfl⟩
    refine jr_norm [(m0, .inr (10, jmdl R mb)), ((mb 2), .inl (t 0, 784, .inl CU)), ((mb 11), .inl (t 0, 16, .inl SK)), ((mb 12), .inl (t 0, 784, .inl TC))] [.int (mcol CU r s1 j)] 12 0 0 rfl rfl rfl rfl rfl ?_
    refine jr_goto 31 CC (jd ddX11_of 8 rfl) (by decide) ?_
    exact jr_iret CC MM (jd ddX11_of 20 rfl) rfl (by decide) (by decide) ⟨by rw [mrow, if_pos (by omega)], rfl⟩
theorem mIn202 : ¬ mIn 2 0 2 = 0 := by decide
theorem eSrc_m (n x src ht : Int32) : eSrc n x src ht = if mRec n x = 0 then 1 else if mIn src 0 2 = 0 then 2 else if src = 2 then (if ht = 1 then 0 else 3) else 0 := by
  unfold eSrc
  simp only [jrec_iff, jin_iff]
  by_cases h1 : mRec n x = 0
  · simp [h1, jI]
  · by_cases h2 : mIn src 0 2 = 0 <;> simp [h1, h2, jI]
set_option maxHeartbeats 8000000 in
set_option maxRecDepth 100000 in
theorem k_X11_isNoSource_1 (l : Launch) (t : Nat → ClassId) (hfl : l.stackTraces = false) (m0 : Nat) (mb : Nat → Nat) (R : Nat → Int32) (CU : Nat → Int32) (LN : Nat → Int32) (PT : Nat → Int32) (ON : Nat → Int32) (TW : Nat → Int32) (SK : Nat → Int32) (TC : Nat → Int32) (m8 : Nat) (pn : Nat) (dn : Nat) (x : Int32) (src : Int32) (h28 : R 28 = nI m8) (hm8 : m8 ≤ 8) (hLN : lenOK LN m8) (hpn : R 37 = nI pn) (hp9 : pn ≤ 16) (hdn : R 41 = nI dn) (hd9 : dn ≤ 16) (hOK : ∀ z, z < pn → pOK PT ON TW z) (hS : dn = 1 → ∃ i0 : Nat, SK 0 = nI i0 ∧ i0 < 16) : jKx l t yX11_isNoSource (Cond.code yX11_isNoSource cX11_isNoSource 4 (some .boolean) :: jWS) { frames := 4, cells := 0, slots := 0, locals := 120 } [.ref m0, .int x, .int src, .int 1] [(m0, .inr (10, jmdl R mb)), ((mb 2), .inl (t 0, 784, .inl CU)), ((mb 3), .inl (t 0, 8, .inl LN)), ((mb 8), .inl (t 0, 16, .inl PT)), ((mb 9), .inl (t 0, 16, .inl ON)), ((mb 10), .inl (t 0, 16, .inl TW)), ((mb 11), .inl (t 0, 16, .inl SK)), ((mb 12), .inl (t 0, 784, .inl TC))] (fun vv uu => (((eSrc (R 28) x src (nI dn)) = 0) ∧ vv = some (.int 0) ∧ uu = [(m0, .inr (10, jmdl (upd R 44 0) mb)), ((mb 2), .inl (t 0, 784, .inl CU)), ((mb 3), .inl (t 0, 8, .inl LN)), ((mb 8), .inl (t 0, 16, .inl PT)), ((mb 9), .inl (t 0, 16, .inl ON)), ((mb 10), .inl (t 0, 16, .inl TW)), ((mb 11), .inl (t 0, 16, .inl SK)), ((mb 12), .inl (t 0, 784, .inl (mTrc R CU LN PT ON TW TC x)))]) ∨ (((eSrc (R 28) x src (nI dn)) = 1) ∧ vv = some (.int 1) ∧ uu = [(m0, .inr (10, jmdl (upd R 44 1) mb)), ((mb 2), .inl (t 0, 784, .inl CU)), ((mb 3), .inl (t 0, 8, .inl LN)), ((mb 8), .inl (t 0, 16, .inl PT)), ((mb 9), .inl (t 0, 16, .inl ON)), ((mb 10), .inl (t 0, 16, .inl TW)), ((mb 11), .inl (t 0, 16, .inl SK)), ((mb 12), .inl (t 0, 784, .inl TC))]) ∨ (((eSrc (R 28) x src (nI dn)) = 2) ∧ vv = some (.int 1) ∧ uu = [(m0, .inr (10, jmdl (upd R 44 2) mb)), ((mb 2), .inl (t 0, 784, .inl CU)), ((mb 3), .inl (t 0, 8, .inl LN)), ((mb 8), .inl (t 0, 16, .inl PT)), ((mb 9), .inl (t 0, 16, .inl ON)), ((mb 10), .inl (t 0, 16, .inl TW)), ((mb 11), .inl (t 0, 16, .inl SK)), ((mb 12), .inl (t 0, 784, .inl TC))]) ∨ (((eSrc (R 28) x src (nI dn)) = 3) ∧ vv = some (.int 1) ∧ uu = [(m0, .inr (10, jmdl (upd R 44 3) mb)), ((mb 2), .inl (t 0, 784, .inl CU)), ((mb 3), .inl (t 0, 8, .inl LN)), ((mb 8), .inl (t 0, 16, .inl PT)), ((mb 9), .inl (t 0, 16, .inl ON)), ((mb 10), .inl (t 0, 16, .inl TW)), ((mb 11), .inl (t 0, 16, .inl SK)), ((mb 12), .inl (t 0, 784, .inl TC))])) (fun _ _ => False) := by
  refine jK_of hfl (by decide +kernel) (Nat.le_of_ble_eq_true rfl) ?_
  intro p e s m args below meth c D A Q CC MM
  refine jr_norm0 [(0, .ref m0), (1, .int x), (2, .int src), (3, .int 1)] rfl ?_
  refine jr_aload_n CC (jd ddX11_isNoSource 0 rfl) 0 rfl ?_
  refine jr_aload_n CC (jd ddX11_isNoSource 1 rfl) 0 rfl ?_
  refine jr_iload_n CC (jd ddX11_isNoSource 2 rfl) 1 rfl ?_
  refine jr_callV (q0 := 0) (rest := [.ref m0]) [.int x] CC (jd ddX11_isNoSource 3 rfl) (jy_X11_189 CC) (k_X11_isRecord l t hfl m0 mb R x) [0] rfl (by decide) rfl rfl rfl rfl (by decide) (Nat.le_of_ble_eq_true rfl) (by rintro v u h; rcases h with ⟨rfl, rfl⟩ <;> exact (show ([m0] : List Nat) = [m0] from rfl)) (fun _ _ h => h.elim) (fun _ _ h => h.elim) (fun v u h => ?_)
  rcases h with ⟨rfl, rfl⟩
  refine jr_norm [(m0, .inr (10, jmdl R mb)), ((mb 2), .inl (t 0, 784, .inl CU)), ((mb 3), .inl (t 0, 8, .inl LN)), ((mb 8), .inl (t 0, 16, .inl PT)), ((mb 9), .inl (t 0, 16, .inl ON)), ((mb 10), .inl (t 0, 16, .inl TW)), ((mb 11), .inl (t 0, 16, .inl SK)), ((mb 12), .inl (t 0, 784, .inl TC))] [.int (mRec (R 28) x), .ref m0] 6 0 0 rfl rfl rfl rfl rfl ?_
  refine jr_if_ne 13 CC (jd ddX11_isNoSource 4 rfl) (by decide) (fun c1 => ?_) (fun c1 => ?_)
  · refine jr_iload_n CC (jd ddX11_isNoSource 7 rfl) 2 rfl ?_
    refine jr_iconst (v := 0) CC (jd ddX11_isNoSource 8 rfl) (by decide) ?_
    refine jr_iconst (v := 2) CC (jd ddX11_isNoSource 9 rfl) (by decide) ?_
    refine jr_callS (rest := [.ref m0]) [.int src, .int 0, .int 2] CC (jd ddX11_isNoSource 10 rfl) (jy_X11_67 CC) (k_X11_isIn l t hfl src 0 2) [] rfl (by decide) rfl rfl (by decide) (Nat.le_of_ble_eq_true rfl) (by rintro v u h; rcases h with ⟨rfl, rfl⟩ <;> rfl) (fun _ _ h => h.elim) (fun _ _ h => h.elim) (fun v u h => ?_)
    rcases h with ⟨rfl, rfl⟩
    refine jr_norm [(m0, .inr (10, jmdl R mb)), ((mb 2), .inl (t 0, 784, .inl CU)), ((mb 3), .inl (t 0, 8, .inl LN)), ((mb 8), .inl (t 0, 16, .inl PT)), ((mb 9), .inl (t 0, 16, .inl ON)), ((mb 10), .inl (t 0, 16, .inl TW)), ((mb 11), .inl (t 0, 16, .inl SK)), ((mb 12), .inl (t 0, 784, .inl TC))] [.int (mIn src 0 2), .ref m0] 19 0 0 rfl rfl rfl rfl rfl ?_
    refine jr_if_eq 26 CC (jd ddX11_isNoSource 11 rfl) (by decide) (fun c2 => ?_) (fun c2 => ?_)
    · refine jr_iconst (v := 2) CC (jd ddX11_isNoSource 14 rfl) (by decide) ?_
      refine jr_goto 48 CC (jd ddX11_isNoSource 15 rfl) (by decide) ?_
      refine jr_callV (q0 := 0) (rest := []) [.int 2] CC (jd ddX11_isNoSource 26 rfl) (jy_X11_111 CC) (k_X11_fails_2 l t hfl m0 mb R) [0] rfl (by decide) rfl rfl rfl rfl (by decide) (Nat.le_of_ble_eq_true rfl) (by rintro v u h; rcases h with ⟨rfl, rfl⟩ <;> exact (show ([m0] : List Nat) = [m0] from rfl)) (fun _ _ h => h.elim) (fun _ _ h => h.elim) (fun v u h => ?_)
      rcases h with ⟨rfl, rfl⟩
      refine jr_norm [(m0, .inr (10, jmdl (upd R 44 2) mb)), ((mb 2), .inl (t 0, 784, .inl CU)), ((mb 3), .inl (t 0, 8, .inl LN)), ((mb 8), .inl (t 0, 16, .inl PT)), ((mb 9), .inl (t 0, 16, .inl ON)), ((mb 10), .inl (t 0, 16, .inl TW)), ((mb 11), .inl (t 0, 16, .inl SK)), ((mb 12), .inl (t 0, 784, .inl TC))] [.int 1] 51 0 0 rfl rfl rfl rfl rfl ?_
      refine jr_if_eq 56 CC (jd ddX11_isNoSource 27 rfl) (by decide) (fun h => absurd h (by decide)) (fun _ => ?_)
      refine jr_iconst (v := 1) CC (jd ddX11_isNoSource 28 rfl) (by decide) ?_
      exact jr_zret rfl CC MM (jd ddX11_isNoSource 29 rfl) rfl (by decide) (by decide) (Or.inr (Or.inr (Or.inl ⟨by rw [eSrc_m]; simp [mIn202, c1, c2], rfl, rfl⟩)))
    · refine jr_iload_n CC (jd ddX11_isNoSource 12 rfl) 3 rfl ?_
      refine jr_if_ne 30 CC (jd ddX11_isNoSource 13 rfl) (by decide) (fun _ => ?_) (fun h => absurd h (by decide))
      refine jr_iload_n CC (jd ddX11_isNoSource 16 rfl) 2 rfl ?_
      refine jr_iconst (v := 2) CC (jd ddX11_isNoSource 17 rfl) (by decide) ?_
      refine jr_icmp_ne 47 CC (jd ddX11_isNoSource 18 rfl) (by decide) (fun c5 => ?_) (fun c5 => ?_)
      · refine jr_iconst (v := 0) CC (jd ddX11_isNoSource 25 rfl) (by decide) ?_
        refine jr_callV (q0 := 0) (rest := []) [.int 0] CC (jd ddX11_isNoSource 26 rfl) (jy_X11_111 CC) (k_X11_fails_0 l t hfl m0 mb R) [0] rfl (by decide) rfl rfl rfl rfl (by decide) (Nat.le_of_ble_eq_true rfl) (by rintro v u h; rcases h with ⟨rfl, rfl⟩ <;> exact (show ([m0] : List Nat) = [m0] from rfl)) (fun _ _ h => h.elim) (fun _ _ h => h.elim) (fun v u h => ?_)
        rcases h with ⟨rfl, rfl⟩
        refine jr_norm [(m0, .inr (10, jmdl (upd R 44 0) mb)), ((mb 2), .inl (t 0, 784, .inl CU)), ((mb 3), .inl (t 0, 8, .inl LN)), ((mb 8), .inl (t 0, 16, .inl PT)), ((mb 9), .inl (t 0, 16, .inl ON)), ((mb 10), .inl (t 0, 16, .inl TW)), ((mb 11), .inl (t 0, 16, .inl SK)), ((mb 12), .inl (t 0, 784, .inl TC))] [.int 0] 51 0 0 rfl rfl rfl rfl rfl ?_
        refine jr_if_eq 56 CC (jd ddX11_isNoSource 27 rfl) (by decide) (fun _ => ?_) (fun h => absurd h (by decide))
        obtain ⟨r, hr, rfl⟩ := jrec_nat (h28 ▸ ((jrec_iff _ _).mpr c1)) hm8
        have ntr : (nI r).toNatClampNeg = r := nI_tn (by omega)
        obtain ⟨kk, hkk, hk1, hk49⟩ := hLN r hr
        refine jr_aload_n CC (jd ddX11_isNoSource 30 rfl) 0 rfl ?_
        refine jr_iload_n CC (jd ddX11_isNoSource 31 rfl) 1 rfl ?_
        refine jr_callV (q0 := 0) (rest := []) [.int (nI r)] CC (jd ddX11_isNoSource 32 rfl) (jy_X11_227 CC) (k_X11_works l t hfl m0 mb (upd R 44 0) CU LN PT ON TW TC r kk pn (by first | assumption | omega | decide) (by first | assumption | omega | decide) (by first | assumption | omega | decide) (by simp [upd, hpn]) hp9 hOK) [0, 1, 2, 3, 4, 5, 7] rfl (by decide) rfl rfl rfl rfl (by decide) (Nat.le_of_ble_eq_true rfl) (by rintro v u h; rcases h with ⟨rfl, rfl⟩ <;> exact (show ([m0, (mb 2), (mb 3), (mb 8), (mb 9), (mb 10), (mb 12)] : List Nat) = [m0, (mb 2), (mb 3), (mb 8), (mb 9), (mb 10), (mb 12)] from rfl)) (fun _ _ h => h.elim) (fun _ _ h => h.elim) (fun v u h => ?_)
        rcases h with ⟨rfl, rfl⟩
        refine jr_norm [(m0, .inr (10, jmdl (upd R 44 0) mb)), ((mb 2), .inl (t 0, 784, .inl CU)), ((mb 3), .inl (t 0, 8, .inl LN)), ((mb 8), .inl (t 0, 16, .inl PT)), ((mb 9), .inl (t 0, 16, .inl ON)), ((mb 10), .inl (t 0, 16, .inl TW)), ((mb 11), .inl (t 0, 16, .inl SK)), ((mb 12), .inl (t 0, 784, .inl (wall CU PT ON TW r kk TC pn)))] [] 61 0 0 rfl rfl rfl rfl rfl ?_
        refine jr_iconst (v := 0) CC (jd ddX11_isNoSource 33 rfl) (by decide) ?_
        exact jr_zret rfl CC MM (jd ddX11_isNoSource 34 rfl) rfl (by decide) (by decide) (Or.inl ⟨by rw [eSrc_m]; simp [mIn202, c1, c2, c5], rfl, by rw [mTrc, ntr, hkk, hpn, nI_tn (show kk < 2147483648 by omega), nI_tn (show pn < 2147483648 by omega)]⟩)
      · refine jr_aload_n CC (jd ddX11_isNoSource 19 rfl) 0 rfl ?_
        refine jr_get (v := .int (R 41)) CC (jd ddX11_isNoSource 20 rfl) (jf_X11_208 CC) 0 rfl rfl ?_
        refine jr_st [.int (nI dn), .ref m0] (jst1 hdn) ?_
        refine jr_iconst (v := 1) CC (jd ddX11_isNoSource 21 rfl) (by decide) ?_
        refine jr_icmp_eq 47 CC (jd ddX11_isNoSource 22 rfl) (by decide) (fun c7 => ?_) (fun c7 => ?_)
        · refine jr_pc (pc' := 47) rfl ?_
          refine jr_iconst (v := 0) CC (jd ddX11_isNoSource 25 rfl) (by decide) ?_
          refine jr_callV (q0 := 0) (rest := []) [.int 0] CC (jd ddX11_isNoSource 26 rfl) (jy_X11_111 CC) (k_X11_fails_0 l t hfl m0 mb R) [0] rfl (by decide) rfl rfl rfl rfl (by decide) (Nat.le_of_ble_eq_true rfl) (by rintro v u h; rcases h with ⟨rfl, rfl⟩ <;> exact (show ([m0] : List Nat) = [m0] from rfl)) (fun _ _ h => h.elim) (fun _ _ h => h.elim) (fun v u h => ?_)
          rcases h with ⟨rfl, rfl⟩
          refine jr_norm [(m0, .inr (10, jmdl (upd R 44 0) mb)), ((mb 2), .inl (t 0, 784, .inl CU)), ((mb 3), .inl (t 0, 8, .inl LN)), ((mb 8), .inl (t 0, 16, .inl PT)), ((mb 9), .inl (t 0, 16, .inl ON)), ((mb 10), .inl (t 0, 16, .inl TW)), ((mb 11), .inl (t 0, 16, .inl SK)), ((mb 12), .inl (t 0, 784, .inl TC))] [.int 0] 51 0 0 rfl rfl rfl rfl rfl ?_
          refine jr_if_eq 56 CC (jd ddX11_isNoSource 27 rfl) (by decide) (fun _ => ?_) (fun h => absurd h (by decide))
          obtain ⟨r, hr, rfl⟩ := jrec_nat (h28 ▸ ((jrec_iff _ _).mpr c1)) hm8
          have ntr : (nI r).toNatClampNeg = r := nI_tn (by omega)
          obtain ⟨kk, hkk, hk1, hk49⟩ := hLN r hr
          refine jr_aload_n CC (jd ddX11_isNoSource 30 rfl) 0 rfl ?_
          refine jr_iload_n CC (jd ddX11_isNoSource 31 rfl) 1 rfl ?_
          refine jr_callV (q0 := 0) (rest := []) [.int (nI r)] CC (jd ddX11_isNoSource 32 rfl) (jy_X11_227 CC) (k_X11_works l t hfl m0 mb (upd R 44 0) CU LN PT ON TW TC r kk pn (by first | assumption | omega | decide) (by first | assumption | omega | decide) (by first | assumption | omega | decide) (by simp [upd, hpn]) hp9 hOK) [0, 1, 2, 3, 4, 5, 7] rfl (by decide) rfl rfl rfl rfl (by decide) (Nat.le_of_ble_eq_true rfl) (by rintro v u h; rcases h with ⟨rfl, rfl⟩ <;> exact (show ([m0, (mb 2), (mb 3), (mb 8), (mb 9), (mb 10), (mb 12)] : List Nat) = [m0, (mb 2), (mb 3), (mb 8), (mb 9), (mb 10), (mb 12)] from rfl)) (fun _ _ h => h.elim) (fun _ _ h => h.elim) (fun v u h => ?_)
          rcases h with ⟨rfl, rfl⟩
          refine jr_norm [(m0, .inr (10, jmdl (upd R 44 0) mb)), ((mb 2), .inl (t 0, 784, .inl CU)), ((mb 3), .inl (t 0, 8, .inl LN)), ((mb 8), .inl (t 0, 16, .inl PT)), ((mb 9), .inl (t 0, 16, .inl ON)), ((mb 10), .inl (t 0, 16, .inl TW)), ((mb 11), .inl (t 0, 16, .inl SK)), ((mb 12), .inl (t 0, 784, .inl (wall CU PT ON TW r kk TC pn)))] [] 61 0 0 rfl rfl rfl rfl rfl ?_
          refine jr_iconst (v := 0) CC (jd ddX11_isNoSource 33 rfl) (by decide) ?_
          exact jr_zret rfl CC MM (jd ddX11_isNoSource 34 rfl) rfl (by decide) (by decide) (Or.inl ⟨by rw [eSrc_m]; simp [mIn202, c1, c2, c5, c7], rfl, by rw [mTrc, ntr, hkk, hpn, nI_tn (show kk < 2147483648 by omega), nI_tn (show pn < 2147483648 by omega)]⟩)
        · refine jr_pc (pc' := 43) rfl ?_
          refine jr_iconst (v := 3) CC (jd ddX11_isNoSource 23 rfl) (by decide) ?_
          refine jr_goto 48 CC (jd ddX11_isNoSource 24 rfl) (by decide) ?_
          refine jr_callV (q0 := 0) (rest := []) [.int 3] CC (jd ddX11_isNoSource 26 rfl) (jy_X11_111 CC) (k_X11_fails_3 l t hfl m0 mb R) [0] rfl (by decide) rfl rfl rfl rfl (by decide) (Nat.le_of_ble_eq_true rfl) (by rintro v u h; rcases h with ⟨rfl, rfl⟩ <;> exact (show ([m0] : List Nat) = [m0] from rfl)) (fun _ _ h => h.elim) (fun _ _ h => h.elim) (fun v u h => ?_)
          rcases h with ⟨rfl, rfl⟩
          refine jr_norm [(m0, .inr (10, jmdl (upd R 44 3) mb)), ((mb 2), .inl (t 0, 784, .inl CU)), ((mb 3), .inl (t 0, 8, .inl LN)), ((mb 8), .inl (t 0, 16, .inl PT)), ((mb 9), .inl (t 0, 16, .inl ON)), ((mb 10), .inl (t 0, 16, .inl TW)), ((mb 11), .inl (t 0, 16, .inl SK)), ((mb 12), .inl (t 0, 784, .inl TC))] [.int 1] 51 0 0 rfl rfl rfl rfl rfl ?_
          refine jr_if_eq 56 CC (jd ddX11_isNoSource 27 rfl) (by decide) (fun h => absurd h (by decide)) (fun _ => ?_)
          refine jr_iconst (v := 1) CC (jd ddX11_isNoSource 28 rfl) (by decide) ?_
          exact jr_zret rfl CC MM (jd ddX11_isNoSource 29 rfl) rfl (by decide) (by decide) (Or.inr (Or.inr (Or.inr ⟨by rw [eSrc_m]; simp [mIn202, c1, c2, c5, c7], rfl, rfl⟩)))
  · refine jr_iconst (v := 1) CC (jd ddX11_isNoSource 5 rfl) (by decide) ?_
    refine jr_goto 48 CC (jd ddX11_isNoSource 6 rfl) (by decide) ?_
    refine jr_callV (q0 := 0) (rest := []) [.int 1] CC (jd ddX11_isNoSource 26 rfl) (jy_X11_111 CC) (k_X11_fails_1 l t hfl m0 mb R) [0] rfl (by decide) rfl rfl rfl rfl (by decide) (Nat.le_of_ble_eq_true rfl) (by rintro v u h; rcases h with ⟨rfl, rfl⟩ <;> exact (show ([m0] : List Nat) = [m0] from rfl)) (fun _ _ h => h.elim) (fun _ _ h => h.elim) (fun v u h => ?_)
    rcases h with ⟨rfl, rfl⟩
    refine jr_norm [(m0, .inr (10, jmdl (upd R 44 1) mb)), ((mb 2), .inl (t 0, 784, .inl CU)), ((mb 3), .inl (t 0, 8, .inl LN)), ((mb 8), .inl (t 0, 16, .inl PT)), ((mb 9), .inl (t 0, 16, .inl ON)), ((mb 10), .inl (t 0, 16, .inl TW)), ((mb 11), .inl (t 0, 16, .inl SK)), ((mb 12), .inl (t 0, 784, .inl TC))] [.int 1] 51 0 0 rfl rfl rfl rfl rfl ?_
    refine jr_if_eq 56 CC (jd ddX11_isNoSource 27 rfl) (by decide) (fun h => absurd h (by decide)) (fun _ => ?_)
    refine jr_iconst (v := 1) CC (jd ddX11_isNoSource 28 rfl) (by decide) ?_
    exact jr_zret rfl CC MM (jd ddX11_isNoSource 29 rfl) rfl (by decide) (by decide) (Or.inr (Or.inl ⟨by rw [eSrc_m]; simp [mIn202, c1], rfl, rfl⟩))
set_option maxHeartbeats 8000000 in
set_option maxRecDepth 100000 in
theorem k_X11_isNoSource_0 (l : Launch) (t : Nat → ClassId) (hfl : l.stackTraces = false) (m0 : Nat) (mb : Nat → Nat) (R : Nat → Int32) (CU : Nat → Int32) (LN : Nat → Int32) (PT : Nat → Int32) (ON : Nat → Int32) (TW : Nat → Int32) (SK : Nat → Int32) (TC : Nat → Int32) (m8 : Nat) (pn : Nat) (dn : Nat) (x : Int32) (src : Int32) (h28 : R 28 = nI m8) (hm8 : m8 ≤ 8) (hLN : lenOK LN m8) (hpn : R 37 = nI pn) (hp9 : pn ≤ 16) (hdn : R 41 = nI dn) (hd9 : dn ≤ 16) (hOK : ∀ z, z < pn → pOK PT ON TW z) (hS : dn = 1 → ∃ i0 : Nat, SK 0 = nI i0 ∧ i0 < 16) : jKx l t yX11_isNoSource (Cond.code yX11_isNoSource cX11_isNoSource 4 (some .boolean) :: jWS) { frames := 4, cells := 0, slots := 0, locals := 120 } [.ref m0, .int x, .int src, .int 0] [(m0, .inr (10, jmdl R mb)), ((mb 2), .inl (t 0, 784, .inl CU)), ((mb 3), .inl (t 0, 8, .inl LN)), ((mb 8), .inl (t 0, 16, .inl PT)), ((mb 9), .inl (t 0, 16, .inl ON)), ((mb 10), .inl (t 0, 16, .inl TW)), ((mb 11), .inl (t 0, 16, .inl SK)), ((mb 12), .inl (t 0, 784, .inl TC))] (fun vv uu => ((mRec (R 28) x = 0) ∧ vv = some (.int 1) ∧ uu = [(m0, .inr (10, jmdl (upd R 44 1) mb)), ((mb 2), .inl (t 0, 784, .inl CU)), ((mb 3), .inl (t 0, 8, .inl LN)), ((mb 8), .inl (t 0, 16, .inl PT)), ((mb 9), .inl (t 0, 16, .inl ON)), ((mb 10), .inl (t 0, 16, .inl TW)), ((mb 11), .inl (t 0, 16, .inl SK)), ((mb 12), .inl (t 0, 784, .inl TC))]) ∨ ((¬ mRec (R 28) x = 0) ∧ vv = some (.int 1) ∧ uu = [(m0, .inr (10, jmdl (upd R 44 2) mb)), ((mb 2), .inl (t 0, 784, .inl CU)), ((mb 3), .inl (t 0, 8, .inl LN)), ((mb 8), .inl (t 0, 16, .inl PT)), ((mb 9), .inl (t 0, 16, .inl ON)), ((mb 10), .inl (t 0, 16, .inl TW)), ((mb 11), .inl (t 0, 16, .inl SK)), ((mb 12), .inl (t 0, 784, .inl TC))])) (fun _ _ => False) := by
  refine jK_of hfl (by decide +kernel) (Nat.le_of_ble_eq_true rfl) ?_
  intro p e s m args below meth c D A Q CC MM
  refine jr_norm0 [(0, .ref m0), (1, .int x), (2, .int src), (3, .int 0)] rfl ?_
  refine jr_aload_n CC (jd ddX11_isNoSource 0 rfl) 0 rfl ?_
  refine jr_aload_n CC (jd ddX11_isNoSource 1 rfl) 0 rfl ?_
  refine jr_iload_n CC (jd ddX11_isNoSource 2 rfl) 1 rfl ?_
  refine jr_callV (q0 := 0) (rest := [.ref m0]) [.int x] CC (jd ddX11_isNoSource 3 rfl) (jy_X11_189 CC) (k_X11_isRecord l t hfl m0 mb R x) [0] rfl (by decide) rfl rfl rfl rfl (by decide) (Nat.le_of_ble_eq_true rfl) (by rintro v u h; rcases h with ⟨rfl, rfl⟩ <;> exact (show ([m0] : List Nat) = [m0] from rfl)) (fun _ _ h => h.elim) (fun _ _ h => h.elim) (fun v u h => ?_)
  rcases h with ⟨rfl, rfl⟩
  refine jr_norm [(m0, .inr (10, jmdl R mb)), ((mb 2), .inl (t 0, 784, .inl CU)), ((mb 3), .inl (t 0, 8, .inl LN)), ((mb 8), .inl (t 0, 16, .inl PT)), ((mb 9), .inl (t 0, 16, .inl ON)), ((mb 10), .inl (t 0, 16, .inl TW)), ((mb 11), .inl (t 0, 16, .inl SK)), ((mb 12), .inl (t 0, 784, .inl TC))] [.int (mRec (R 28) x), .ref m0] 6 0 0 rfl rfl rfl rfl rfl ?_
  refine jr_if_ne 13 CC (jd ddX11_isNoSource 4 rfl) (by decide) (fun c1 => ?_) (fun c1 => ?_)
  · refine jr_iload_n CC (jd ddX11_isNoSource 7 rfl) 2 rfl ?_
    refine jr_iconst (v := 0) CC (jd ddX11_isNoSource 8 rfl) (by decide) ?_
    refine jr_iconst (v := 2) CC (jd ddX11_isNoSource 9 rfl) (by decide) ?_
    refine jr_callS (rest := [.ref m0]) [.int src, .int 0, .int 2] CC (jd ddX11_isNoSource 10 rfl) (jy_X11_67 CC) (k_X11_isIn l t hfl src 0 2) [] rfl (by decide) rfl rfl (by decide) (Nat.le_of_ble_eq_true rfl) (by rintro v u h; rcases h with ⟨rfl, rfl⟩ <;> rfl) (fun _ _ h => h.elim) (fun _ _ h => h.elim) (fun v u h => ?_)
    rcases h with ⟨rfl, rfl⟩
    refine jr_norm [(m0, .inr (10, jmdl R mb)), ((mb 2), .inl (t 0, 784, .inl CU)), ((mb 3), .inl (t 0, 8, .inl LN)), ((mb 8), .inl (t 0, 16, .inl PT)), ((mb 9), .inl (t 0, 16, .inl ON)), ((mb 10), .inl (t 0, 16, .inl TW)), ((mb 11), .inl (t 0, 16, .inl SK)), ((mb 12), .inl (t 0, 784, .inl TC))] [.int (mIn src 0 2), .ref m0] 19 0 0 rfl rfl rfl rfl rfl ?_
    refine jr_if_eq 26 CC (jd ddX11_isNoSource 11 rfl) (by decide) (fun c2 => ?_) (fun c2 => ?_)
    · refine jr_iconst (v := 2) CC (jd ddX11_isNoSource 14 rfl) (by decide) ?_
      refine jr_goto 48 CC (jd ddX11_isNoSource 15 rfl) (by decide) ?_
      refine jr_callV (q0 := 0) (rest := []) [.int 2] CC (jd ddX11_isNoSource 26 rfl) (jy_X11_111 CC) (k_X11_fails_2 l t hfl m0 mb R) [0] rfl (by decide) rfl rfl rfl rfl (by decide) (Nat.le_of_ble_eq_true rfl) (by rintro v u h; rcases h with ⟨rfl, rfl⟩ <;> exact (show ([m0] : List Nat) = [m0] from rfl)) (fun _ _ h => h.elim) (fun _ _ h => h.elim) (fun v u h => ?_)
      rcases h with ⟨rfl, rfl⟩
      refine jr_norm [(m0, .inr (10, jmdl (upd R 44 2) mb)), ((mb 2), .inl (t 0, 784, .inl CU)), ((mb 3), .inl (t 0, 8, .inl LN)), ((mb 8), .inl (t 0, 16, .inl PT)), ((mb 9), .inl (t 0, 16, .inl ON)), ((mb 10), .inl (t 0, 16, .inl TW)), ((mb 11), .inl (t 0, 16, .inl SK)), ((mb 12), .inl (t 0, 784, .inl TC))] [.int 1] 51 0 0 rfl rfl rfl rfl rfl ?_
      refine jr_if_eq 56 CC (jd ddX11_isNoSource 27 rfl) (by decide) (fun h => absurd h (by decide)) (fun _ => ?_)
      refine jr_iconst (v := 1) CC (jd ddX11_isNoSource 28 rfl) (by decide) ?_
      exact jr_zret rfl CC MM (jd ddX11_isNoSource 29 rfl) rfl (by decide) (by decide) (Or.inr ⟨c1, rfl, rfl⟩)
    · refine jr_iload_n CC (jd ddX11_isNoSource 12 rfl) 3 rfl ?_
      refine jr_if_ne 30 CC (jd ddX11_isNoSource 13 rfl) (by decide) (fun h => absurd h (by decide)) (fun _ => ?_)
      refine jr_iconst (v := 2) CC (jd ddX11_isNoSource 14 rfl) (by decide) ?_
      refine jr_goto 48 CC (jd ddX11_isNoSource 15 rfl) (by decide) ?_
      refine jr_callV (q0 := 0) (rest := []) [.int 2] CC (jd ddX11_isNoSource 26 rfl) (jy_X11_111 CC) (k_X11_fails_2 l t hfl m0 mb R) [0] rfl (by decide) rfl rfl rfl rfl (by decide) (Nat.le_of_ble_eq_true rfl) (by rintro v u h; rcases h with ⟨rfl, rfl⟩ <;> exact (show ([m0] : List Nat) = [m0] from rfl)) (fun _ _ h => h.elim) (fun _ _ h => h.elim) (fun v u h => ?_)
      rcases h with ⟨rfl, rfl⟩
      refine jr_norm [(m0, .inr (10, jmdl (upd R 44 2) mb)), ((mb 2), .inl (t 0, 784, .inl CU)), ((mb 3), .inl (t 0, 8, .inl LN)), ((mb 8), .inl (t 0, 16, .inl PT)), ((mb 9), .inl (t 0, 16, .inl ON)), ((mb 10), .inl (t 0, 16, .inl TW)), ((mb 11), .inl (t 0, 16, .inl SK)), ((mb 12), .inl (t 0, 784, .inl TC))] [.int 1] 51 0 0 rfl rfl rfl rfl rfl ?_
      refine jr_if_eq 56 CC (jd ddX11_isNoSource 27 rfl) (by decide) (fun h => absurd h (by decide)) (fun _ => ?_)
      refine jr_iconst (v := 1) CC (jd ddX11_isNoSource 28 rfl) (by decide) ?_
      exact jr_zret rfl CC MM (jd ddX11_isNoSource 29 rfl) rfl (by decide) (by decide) (Or.inr ⟨c1, rfl, rfl⟩)
  · refine jr_iconst (v := 1) CC (jd ddX11_isNoSource 5 rfl) (by decide) ?_
    refine jr_goto 48 CC (jd ddX11_isNoSource 6 rfl) (by decide) ?_
    refine jr_callV (q0 := 0) (rest := []) [.int 1] CC (jd ddX11_isNoSource 26 rfl) (jy_X11_111 CC) (k_X11_fails_1 l t hfl m0 mb R) [0] rfl (by decide) rfl rfl rfl rfl (by decide) (Nat.le_of_ble_eq_true rfl) (by rintro v u h; rcases h with ⟨rfl, rfl⟩ <;> exact (show ([m0] : List Nat) = [m0] from rfl)) (fun _ _ h => h.elim) (fun _ _ h => h.elim) (fun v u h => ?_)
    rcases h with ⟨rfl, rfl⟩
    refine jr_norm [(m0, .inr (10, jmdl (upd R 44 1) mb)), ((mb 2), .inl (t 0, 784, .inl CU)), ((mb 3), .inl (t 0, 8, .inl LN)), ((mb 8), .inl (t 0, 16, .inl PT)), ((mb 9), .inl (t 0, 16, .inl ON)), ((mb 10), .inl (t 0, 16, .inl TW)), ((mb 11), .inl (t 0, 16, .inl SK)), ((mb 12), .inl (t 0, 784, .inl TC))] [.int 1] 51 0 0 rfl rfl rfl rfl rfl ?_
    refine jr_if_eq 56 CC (jd ddX11_isNoSource 27 rfl) (by decide) (fun h => absurd h (by decide)) (fun _ => ?_)
    refine jr_iconst (v := 1) CC (jd ddX11_isNoSource 28 rfl) (by decide) ?_
    exact jr_zret rfl CC MM (jd ddX11_isNoSource 29 rfl) rfl (by decide) (by decide) (Or.inl ⟨c1, rfl, rfl⟩)
theorem eSrc_inv {m8 dn : Nat} {x src : Int32} (h : eSrc (nI m8) x src (nI dn) = 0) (hm8 : m8 ≤ 8) (hd : dn ≤ 16) : ∃ r s1 : Nat, r < m8 ∧ x = nI r ∧ s1 ≤ 2 ∧ src = nI s1 ∧ (s1 = 2 → dn = 1) := by
  rw [eSrc_m] at h
  by_cases h1 : mRec (nI m8) x = 0
  · rw [if_pos h1] at h; exact absurd h (by decide)
  rw [if_neg h1] at h
  by_cases h2 : mIn src 0 2 = 0
  · rw [if_pos h2] at h; exact absurd h (by decide)
  rw [if_neg h2] at h
  obtain ⟨r, hr, rfl⟩ := jrec_nat ((jrec_iff _ _).mpr h1) hm8
  obtain ⟨s1, hs1, rfl⟩ := jin_nat 2 ((jin_iff _ _ _).mpr h2) (by decide) rfl
  refine ⟨r, s1, hr, rfl, hs1, rfl, fun q => ?_⟩
  subst q
  rw [if_pos (show nI 2 = 2 from rfl)] at h
  by_cases h3 : nI dn = 1
  · exact jeq_of (a := dn) (b := 1) h3 (by omega) (by decide)
  · rw [if_neg h3] at h; exact absurd h (by decide)
set_option maxHeartbeats 8000000 in
set_option maxRecDepth 100000 in
theorem k_X11_least (l : Launch) (t : Nat → ClassId) (hfl : l.stackTraces = false) (m0 : Nat) (mb : Nat → Nat) (R : Nat → Int32) (CU : Nat → Int32) (LN : Nat → Int32) (PT : Nat → Int32) (ON : Nat → Int32) (TW : Nat → Int32) (SK : Nat → Int32) (TC : Nat → Int32) (m8 : Nat) (pn : Nat) (dn : Nat) (x : Int32) (src : Int32) (h28 : R 28 = nI m8) (hm8 : m8 ≤ 8) (hLN : lenOK LN m8) (hpn : R 37 = nI pn) (hp9 : pn ≤ 16) (hdn : R 41 = nI dn) (hd9 : dn ≤ 16) (hOK : ∀ z, z < pn → pOK PT ON TW z) (hS : dn = 1 → ∃ i0 : Nat, SK 0 = nI i0 ∧ i0 < 16) : jKx l t yX11_least (Cond.code yX11_least cX11_least 5 (some .int) :: jWS) { frames := 5, cells := 0, slots := 0, locals := 143 } [.ref m0, .int x, .int src] [(m0, .inr (10, jmdl R mb)), ((mb 2), .inl (t 0, 784, .inl CU)), ((mb 3), .inl (t 0, 8, .inl LN)), ((mb 8), .inl (t 0, 16, .inl PT)), ((mb 9), .inl (t 0, 16, .inl ON)), ((mb 10), .inl (t 0, 16, .inl TW)), ((mb 11), .inl (t 0, 16, .inl SK)), ((mb 12), .inl (t 0, 784, .inl TC))] (fun vv uu => (((eSrc (R 28) x src (nI dn)) = 0) ∧ vv = some (.int (rowLo (mAsk R CU LN PT ON TW SK TC x src) (LN x.toNatClampNeg))) ∧ uu = [(m0, .inr (10, jmdl (upd R 44 0) mb)), ((mb 2), .inl (t 0, 784, .inl CU)), ((mb 3), .inl (t 0, 8, .inl LN)), ((mb 8), .inl (t 0, 16, .inl PT)), ((mb 9), .inl (t 0, 16, .inl ON)), ((mb 10), .inl (t 0, 16, .inl TW)), ((mb 11), .inl (t 0, 16, .inl SK)), ((mb 12), .inl (t 0, 784, .inl (mTrc R CU LN PT ON TW TC x)))]) ∨ (((eSrc (R 28) x src (nI dn)) = 1) ∧ vv = some (.int 0) ∧ uu = [(m0, .inr (10, jmdl (upd R 44 1) mb)), ((mb 2), .inl (t 0, 784, .inl CU)), ((mb 3), .inl (t 0, 8, .inl LN)), ((mb 8), .inl (t 0, 16, .inl PT)), ((mb 9), .inl (t 0, 16, .inl ON)), ((mb 10), .inl (t 0, 16, .inl TW)), ((mb 11), .inl (t 0, 16, .inl SK)), ((mb 12), .inl (t 0, 784, .inl TC))]) ∨ (((eSrc (R 28) x src (nI dn)) = 2) ∧ vv = some (.int 0) ∧ uu = [(m0, .inr (10, jmdl (upd R 44 2) mb)), ((mb 2), .inl (t 0, 784, .inl CU)), ((mb 3), .inl (t 0, 8, .inl LN)), ((mb 8), .inl (t 0, 16, .inl PT)), ((mb 9), .inl (t 0, 16, .inl ON)), ((mb 10), .inl (t 0, 16, .inl TW)), ((mb 11), .inl (t 0, 16, .inl SK)), ((mb 12), .inl (t 0, 784, .inl TC))]) ∨ (((eSrc (R 28) x src (nI dn)) = 3) ∧ vv = some (.int 0) ∧ uu = [(m0, .inr (10, jmdl (upd R 44 3) mb)), ((mb 2), .inl (t 0, 784, .inl CU)), ((mb 3), .inl (t 0, 8, .inl LN)), ((mb 8), .inl (t 0, 16, .inl PT)), ((mb 9), .inl (t 0, 16, .inl ON)), ((mb 10), .inl (t 0, 16, .inl TW)), ((mb 11), .inl (t 0, 16, .inl SK)), ((mb 12), .inl (t 0, 784, .inl TC))])) (fun _ _ => False) := by
  refine jK_of hfl (by decide +kernel) (Nat.le_of_ble_eq_true rfl) ?_
  intro p e s m args below meth c D A Q CC MM
  refine jr_norm0 [(0, .ref m0), (1, .int x), (2, .int src)] rfl ?_
  refine jr_aload_n CC (jd ddX11_least 0 rfl) 0 rfl ?_
  refine jr_iload_n CC (jd ddX11_least 1 rfl) 1 rfl ?_
  refine jr_iload_n CC (jd ddX11_least 2 rfl) 2 rfl ?_
  refine jr_iconst (v := 1) CC (jd ddX11_least 3 rfl) (by decide) ?_
  refine jr_callV (q0 := 0) (rest := []) [.int x, .int src, .int 1] CC (jd ddX11_least 4 rfl) (jy_X11_231 CC) (k_X11_isNoSource_1 l t hfl m0 mb R CU LN PT ON TW SK TC m8 pn dn x src h28 hm8 hLN hpn hp9 hdn hd9 hOK hS) [0, 1, 2, 3, 4, 5, 6, 7] rfl (by decide) rfl rfl rfl rfl (by decide) (Nat.le_of_ble_eq_true rfl) (by rintro v u h; rcases h with ⟨h0, rfl, rfl⟩ | ⟨h0, rfl, rfl⟩ | ⟨h0, rfl, rfl⟩ | ⟨h0, rfl, rfl⟩ <;> exact (show ([m0, (mb 2), (mb 3), (mb 8), (mb 9), (mb 10), (mb 11), (mb 12)] : List Nat) = [m0, (mb 2), (mb 3), (mb 8), (mb 9), (mb 10), (mb 11), (mb 12)] from rfl)) (fun _ _ h => h.elim) (fun _ _ h => h.elim) (fun v u h => ?_)
  rcases h with ⟨c1, rfl, rfl⟩ | ⟨c2, rfl, rfl⟩ | ⟨c3, rfl, rfl⟩ | ⟨c4, rfl, rfl⟩
  · refine jr_norm [(m0, .inr (10, jmdl (upd R 44 0) mb)), ((mb 2), .inl (t 0, 784, .inl CU)), ((mb 3), .inl (t 0, 8, .inl LN)), ((mb 8), .inl (t 0, 16, .inl PT)), ((mb 9), .inl (t 0, 16, .inl ON)), ((mb 10), .inl (t 0, 16, .inl TW)), ((mb 11), .inl (t 0, 16, .inl SK)), ((mb 12), .inl (t 0, 784, .inl (mTrc R CU LN PT ON TW TC x)))] [.int 0] 7 0 0 rfl rfl rfl rfl rfl ?_
    refine jr_if_eq 12 CC (jd ddX11_least 5 rfl) (by decide) (fun _ => ?_) (fun h => absurd h (by decide))
    obtain ⟨r, s1, hr, hxr, hs1, hsr, hs2⟩ := eSrc_inv (h28 ▸ c1) hm8 hd9
    subst hxr
    have ntr : (nI r).toNatClampNeg = r := nI_tn (by omega)
    subst hsr
    have nts1 : (nI s1).toNatClampNeg = s1 := nI_tn (by omega)
    obtain ⟨kk, hkk, hk1, hk49⟩ := hLN r hr
    have hS9 : s1 = 2 → SK 0 = nI (SK 0).toNatClampNeg ∧ (SK 0).toNatClampNeg < 16 := fun q => (by obtain ⟨i0, hi0, hi9⟩ := hS (hs2 q); rw [hi0, nI_tn (by omega)]; exact ⟨rfl, hi9⟩)
    refine jr_aload_n CC (jd ddX11_least 8 rfl) 0 rfl ?_
    refine jr_iload_n CC (jd ddX11_least 9 rfl) 1 rfl ?_
    refine jr_iload_n CC (jd ddX11_least 10 rfl) 2 rfl ?_
    refine jr_iconst (v := 0) CC (jd ddX11_least 11 rfl) (by decide) ?_
    refine jr_callV (q0 := 0) (rest := []) [.int (nI r), .int (nI s1), .int 0] CC (jd ddX11_least 12 rfl) (jy_X11_235 CC) (k_X11_of l t hfl m0 mb (upd R 44 0) CU SK (mTrc R CU LN PT ON TW TC (nI r)) r s1 0 ((SK 0).toNatClampNeg) (by first | assumption | omega | decide) (by first | assumption | omega | decide) (by omega) hS9) [0, 1, 6, 7] rfl (by decide) rfl rfl rfl rfl (by decide) (Nat.le_of_ble_eq_true rfl) (by rintro v u h; rcases h with ⟨rfl, rfl⟩ <;> exact (show ([m0, (mb 2), (mb 11), (mb 12)] : List Nat) = [m0, (mb 2), (mb 11), (mb 12)] from rfl)) (fun _ _ h => h.elim) (fun _ _ h => h.elim) (fun v u h => ?_)
    rcases h with ⟨rfl, rfl⟩
    refine jr_norm [(m0, .inr (10, jmdl (upd R 44 0) mb)), ((mb 2), .inl (t 0, 784, .inl CU)), ((mb 3), .inl (t 0, 8, .inl LN)), ((mb 8), .inl (t 0, 16, .inl PT)), ((mb 9), .inl (t 0, 16, .inl ON)), ((mb 10), .inl (t 0, 16, .inl TW)), ((mb 11), .inl (t 0, 16, .inl SK)), ((mb 12), .inl (t 0, 784, .inl (mTrc R CU LN PT ON TW TC (nI r))))] [.int (mrow CU (mTrc R CU LN PT ON TW TC (nI r)) ((SK 0).toNatClampNeg) r s1 0)] 19 0 0 rfl rfl rfl rfl rfl ?_
    refine jr_istore_n 3 [(3, .int (mrow CU (mTrc R CU LN PT ON TW TC (nI r)) ((SK 0).toNatClampNeg) r s1 0)), (0, .ref m0), (1, .int (nI r)), (2, .int (nI s1))] CC (jd ddX11_least 13 rfl) rfl (by decide) rfl ?_
    refine jr_iconst (v := 1) CC (jd ddX11_least 14 rfl) (by decide) ?_
    refine jr_istore [(4, .int 1), (3, .int (mrow CU (mTrc R CU LN PT ON TW TC (nI r)) ((SK 0).toNatClampNeg) r s1 0)), (0, .ref m0), (1, .int (nI r)), (2, .int (nI s1))] CC (jd ddX11_least 15 rfl) (by decide) rfl ?_
    have hL6 : ∀ (d9 : Nat) (i : Nat) (acc : Int32) (hi1 : 1 ≤ i) (hi : i ≤ kk + 1) (hq : jlo (mrow CU (mTrc R CU LN PT ON TW TC (nI r)) (SK 0).toNatClampNeg r s1) (kk - 1) 1 ((mrow CU (mTrc R CU LN PT ON TW TC (nI r)) (SK 0).toNatClampNeg r s1) 0) = jlo (mrow CU (mTrc R CU LN PT ON TW TC (nI r)) (SK 0).toNatClampNeg r s1) (kk - i) i acc), kk - i < d9 → J p l e { frames := 5, cells := 0, slots := 0, locals := 143 } s m args below meth c D A 5 Q [(m0, .inr (10, jmdl (upd R 44 0) mb)), ((mb 2), .inl (t 0, 784, .inl CU)), ((mb 3), .inl (t 0, 8, .inl LN)), ((mb 8), .inl (t 0, 16, .inl PT)), ((mb 9), .inl (t 0, 16, .inl ON)), ((mb 10), .inl (t 0, 16, .inl TW)), ((mb 11), .inl (t 0, 16, .inl SK)), ((mb 12), .inl (t 0, 784, .inl (mTrc R CU LN PT ON TW TC (nI r))))] [(0, .ref m0), (1, .int (nI r)), (2, .int (nI s1)), (3, .int acc), (4, .int (nI i))] 23 [] 0 0 := by
      intro d9
      induction d9 with
      | zero => intro i acc hi1 hi hq hmu; exact absurd hmu (Nat.not_lt_zero _)
      | succ d9 ih23 =>
        intro i acc hi1 hi hq hmu
        refine jr_iload CC (jd ddX11_least 16 rfl) 4 rfl ?_
        refine jr_aload_n CC (jd ddX11_least 17 rfl) 0 rfl ?_
        refine jr_get (v := .ref (mb 3)) CC (jd ddX11_least 18 rfl) (jf_X11_33 CC) 0 rfl rfl ?_
        refine jr_iload_n CC (jd ddX11_least 19 rfl) 1 rfl ?_
        refine jr_ialdN CC (jd ddX11_least 20 rfl) 2 r rfl rfl (by omega) (by decide) ?_
        refine jr_st [.int (nI kk), .int (nI i)] (jst1 hkk) ?_
        refine jr_icmp_ge 65 CC (jd ddX11_least 21 rfl) (by decide) (fun c7 => ?_) (fun c7 => ?_)
        · have n7 := jle_of (a := kk) (b := i) c7 (by omega) (by omega)
          refine jr_iload_n CC (jd ddX11_least 39 rfl) 3 rfl ?_
          exact jr_iret CC MM (jd ddX11_least 40 rfl) rfl (by decide) (by decide) (Or.inl ⟨c1, by rw [rowLo, mAsk, nts1, ntr, hkk, nI_tn (show kk < 2147483648 by omega)]; exact congrArg (fun z => some (Value.int z)) ((show jlo (mrow CU (mTrc R CU LN PT ON TW TC (nI r)) (SK 0).toNatClampNeg r s1) (kk - i) i acc = acc by rw [show kk - i = 0 by omega]; rfl).symm.trans hq.symm), rfl⟩)
        · have n7 := jle_not (a := kk) (b := i) c7 (by omega) (by omega)
          refine jr_aload_n CC (jd ddX11_least 22 rfl) 0 rfl ?_
          refine jr_iload_n CC (jd ddX11_least 23 rfl) 1 rfl ?_
          refine jr_iload_n CC (jd ddX11_least 24 rfl) 2 rfl ?_
          refine jr_iload CC (jd ddX11_least 25 rfl) 4 rfl ?_
          refine jr_pc (pc' := 39) rfl ?_
          refine jr_callV (q0 := 0) (rest := []) [.int (nI r), .int (nI s1), .int (nI i)] CC (jd ddX11_least 26 rfl) (jy_X11_235 CC) (k_X11_of l t hfl m0 mb (upd R 44 0) CU SK (mTrc R CU LN PT ON TW TC (nI r)) r s1 i ((SK 0).toNatClampNeg) (by first | assumption | omega | decide) (by first | assumption | omega | decide) (by omega) hS9) [0, 1, 6, 7] rfl (by decide) rfl rfl rfl rfl (by decide) (Nat.le_of_ble_eq_true rfl) (by rintro v u h; rcases h with ⟨rfl, rfl⟩ <;> exact (show ([m0, (mb 2), (mb 11), (mb 12)] : List Nat) = [m0, (mb 2), (mb 11), (mb 12)] from rfl)) (fun _ _ h => h.elim) (fun _ _ h => h.elim) (fun v u h => ?_)
          rcases h with ⟨rfl, rfl⟩
          refine jr_norm [(m0, .inr (10, jmdl (upd R 44 0) mb)), ((mb 2), .inl (t 0, 784, .inl CU)), ((mb 3), .inl (t 0, 8, .inl LN)), ((mb 8), .inl (t 0, 16, .inl PT)), ((mb 9), .inl (t 0, 16, .inl ON)), ((mb 10), .inl (t 0, 16, .inl TW)), ((mb 11), .inl (t 0, 16, .inl SK)), ((mb 12), .inl (t 0, 784, .inl (mTrc R CU LN PT ON TW TC (nI r))))] [.int (mrow CU (mTrc R CU LN PT ON TW TC (nI r)) ((SK 0).toNatClampNeg) r s1 i)] 42 0 0 rfl rfl rfl rfl rfl ?_
          refine jr_iload_n CC (jd ddX11_least 27 rfl) 3 rfl ?_
          refine jr_icmp_ge 57 CC (jd ddX11_least 28 rfl) (by decide) (fun c8 => ?_) (fun c8 => ?_)
          · refine jr_iload_n CC (jd ddX11_least 35 rfl) 3 rfl ?_
            refine jr_istore_n 3 [(3, .int acc), (0, .ref m0), (1, .int (nI r)), (2, .int (nI s1)), (4, .int (nI i))] CC (jd ddX11_least 36 rfl) rfl (by decide) rfl ?_
            refine jr_iinc [(4, .int (nI (i + 1))), (3, .int acc), (0, .ref m0), (1, .int (nI r)), (2, .int (nI s1))] CC (jd ddX11_least 37 rfl) 4 rfl (nI_1 _) (by decide) rfl ?_
            refine jr_goto 23 CC (jd ddX11_least 38 rfl) (by decide) ?_
            refine jr_norm [(m0, .inr (10, jmdl (upd R 44 0) mb)), ((mb 2), .inl (t 0, 784, .inl CU)), ((mb 3), .inl (t 0, 8, .inl LN)), ((mb 8), .inl (t 0, 16, .inl PT)), ((mb 9), .inl (t 0, 16, .inl ON)), ((mb 10), .inl (t 0, 16, .inl TW)), ((mb 11), .inl (t 0, 16, .inl SK)), ((mb 12), .inl (t 0, 784, .inl (mTrc R CU LN PT ON TW TC (nI r))))] [] 23 0 0 rfl rfl rfl rfl rfl ?_
            refine jr_lv [2, 3, 4, 1, 0] [(0, .ref m0), (1, .int (nI r)), (2, .int (nI s1)), (3, .int acc), (4, .int (nI (i + 1)))] rfl ?_
            exact ih23 (i + 1) acc (by omega) (by omega) (by rw [hq, show kk - i = (kk - (i + 1)) + 1 by omega]; show jlo (mrow CU (mTrc R CU LN PT ON TW TC (nI r)) (SK 0).toNatClampNeg r s1) (kk - (i + 1)) (i + 1) (jmin acc ((mrow CU (mTrc R CU LN PT ON TW TC (nI r)) (SK 0).toNatClampNeg r s1) i)) = _; rw [jmin_ge c8]) (by omega)
          · refine jr_aload_n CC (jd ddX11_least 29 rfl) 0 rfl ?_
            refine jr_iload_n CC (jd ddX11_least 30 rfl) 1 rfl ?_
            refine jr_iload_n CC (jd ddX11_least 31 rfl) 2 rfl ?_
            refine jr_iload CC (jd ddX11_least 32 rfl) 4 rfl ?_
            refine jr_callV (q0 := 0) (rest := []) [.int (nI r), .int (nI s1), .int (nI i)] CC (jd ddX11_least 33 rfl) (jy_X11_235 CC) (k_X11_of l t hfl m0 mb (upd R 44 0) CU SK (mTrc R CU LN PT ON TW TC (nI r)) r s1 i ((SK 0).toNatClampNeg) (by first | assumption | omega | decide) (by first | assumption | omega | decide) (by omega) hS9) [0, 1, 6, 7] rfl (by decide) rfl rfl rfl rfl (by decide) (Nat.le_of_ble_eq_true rfl) (by rintro v u h; rcases h with ⟨rfl, rfl⟩ <;> exact (show ([m0, (mb 2), (mb 11), (mb 12)] : List Nat) = [m0, (mb 2), (mb 11), (mb 12)] from rfl)) (fun _ _ h => h.elim) (fun _ _ h => h.elim) (fun v u h => ?_)
            rcases h with ⟨rfl, rfl⟩
            refine jr_norm [(m0, .inr (10, jmdl (upd R 44 0) mb)), ((mb 2), .inl (t 0, 784, .inl CU)), ((mb 3), .inl (t 0, 8, .inl LN)), ((mb 8), .inl (t 0, 16, .inl PT)), ((mb 9), .inl (t 0, 16, .inl ON)), ((mb 10), .inl (t 0, 16, .inl TW)), ((mb 11), .inl (t 0, 16, .inl SK)), ((mb 12), .inl (t 0, 784, .inl (mTrc R CU LN PT ON TW TC (nI r))))] [.int (mrow CU (mTrc R CU LN PT ON TW TC (nI r)) ((SK 0).toNatClampNeg) r s1 i)] 54 0 0 rfl rfl rfl rfl rfl ?_
            refine jr_goto 58 CC (jd ddX11_least 34 rfl) (by decide) ?_
            refine jr_istore_n 3 [(3, .int (mrow CU (mTrc R CU LN PT ON TW TC (nI r)) ((SK 0).toNatClampNeg) r s1 i)), (0, .ref m0), (1, .int (nI r)), (2, .int (nI s1)), (4, .int (nI i))] CC (jd ddX11_least 36 rfl) rfl (by decide) rfl ?_
            refine jr_iinc [(4, .int (nI (i + 1))), (3, .int (mrow CU (mTrc R CU LN PT ON TW TC (nI r)) ((SK 0).toNatClampNeg) r s1 i)), (0, .ref m0), (1, .int (nI r)), (2, .int (nI s1))] CC (jd ddX11_least 37 rfl) 4 rfl (nI_1 _) (by decide) rfl ?_
            refine jr_goto 23 CC (jd ddX11_least 38 rfl) (by decide) ?_
            refine jr_norm [(m0, .inr (10, jmdl (upd R 44 0) mb)), ((mb 2), .inl (t 0, 784, .inl CU)), ((mb 3), .inl (t 0, 8, .inl LN)), ((mb 8), .inl (t 0, 16, .inl PT)), ((mb 9), .inl (t 0, 16, .inl ON)), ((mb 10), .inl (t 0, 16, .inl TW)), ((mb 11), .inl (t 0, 16, .inl SK)), ((mb 12), .inl (t 0, 784, .inl (mTrc R CU LN PT ON TW TC (nI r))))] [] 23 0 0 rfl rfl rfl rfl rfl ?_
            refine jr_lv [2, 3, 4, 1, 0] [(0, .ref m0), (1, .int (nI r)), (2, .int (nI s1)), (3, .int (mrow CU (mTrc R CU LN PT ON TW TC (nI r)) ((SK 0).toNatClampNeg) r s1 i)), (4, .int (nI (i + 1)))] rfl ?_
            exact ih23 (i + 1) (mrow CU (mTrc R CU LN PT ON TW TC (nI r)) ((SK 0).toNatClampNeg) r s1 i) (by omega) (by omega) (by rw [hq, show kk - i = (kk - (i + 1)) + 1 by omega]; show jlo (mrow CU (mTrc R CU LN PT ON TW TC (nI r)) (SK 0).toNatClampNeg r s1) (kk - (i + 1)) (i + 1) (jmin acc ((mrow CU (mTrc R CU LN PT ON TW TC (nI r)) (SK 0).toNatClampNeg r s1) i)) = _; rw [jmin_lt c8]) (by omega)
    refine jr_norm [(m0, .inr (10, jmdl (upd R 44 0) mb)), ((mb 2), .inl (t 0, 784, .inl CU)), ((mb 3), .inl (t 0, 8, .inl LN)), ((mb 8), .inl (t 0, 16, .inl PT)), ((mb 9), .inl (t 0, 16, .inl ON)), ((mb 10), .inl (t 0, 16, .inl TW)), ((mb 11), .inl (t 0, 16, .inl SK)), ((mb 12), .inl (t 0, 784, .inl (mTrc R CU LN PT ON TW TC (nI r))))] [] 23 0 0 rfl rfl rfl rfl rfl ?_
    refine jr_lv [2, 3, 4, 1, 0] [(0, .ref m0), (1, .int (nI r)), (2, .int (nI s1)), (3, .int (mrow CU (mTrc R CU LN PT ON TW TC (nI r)) ((SK 0).toNatClampNeg) r s1 0)), (4, .int (nI 1))] rfl ?_
    exact hL6 (kk - 1 + 1) 1 (mrow CU (mTrc R CU LN PT ON TW TC (nI r)) ((SK 0).toNatClampNeg) r s1 0) (Nat.le_refl _) (by omega) rfl (Nat.lt_succ_self _)
  · refine jr_norm [(m0, .inr (10, jmdl (upd R 44 1) mb)), ((mb 2), .inl (t 0, 784, .inl CU)), ((mb 3), .inl (t 0, 8, .inl LN)), ((mb 8), .inl (t 0, 16, .inl PT)), ((mb 9), .inl (t 0, 16, .inl ON)), ((mb 10), .inl (t 0, 16, .inl TW)), ((mb 11), .inl (t 0, 16, .inl SK)), ((mb 12), .inl (t 0, 784, .inl TC))] [.int 1] 7 0 0 rfl rfl rfl rfl rfl ?_
    refine jr_if_eq 12 CC (jd ddX11_least 5 rfl) (by decide) (fun h => absurd h (by decide)) (fun _ => ?_)
    refine jr_iconst (v := 0) CC (jd ddX11_least 6 rfl) (by decide) ?_
    exact jr_iret CC MM (jd ddX11_least 7 rfl) rfl (by decide) (by decide) (Or.inr (Or.inl ⟨c2, rfl, rfl⟩))
  · refine jr_norm [(m0, .inr (10, jmdl (upd R 44 2) mb)), ((mb 2), .inl (t 0, 784, .inl CU)), ((mb 3), .inl (t 0, 8, .inl LN)), ((mb 8), .inl (t 0, 16, .inl PT)), ((mb 9), .inl (t 0, 16, .inl ON)), ((mb 10), .inl (t 0, 16, .inl TW)), ((mb 11), .inl (t 0, 16, .inl SK)), ((mb 12), .inl (t 0, 784, .inl TC))] [.int 1] 7 0 0 rfl rfl rfl rfl rfl ?_
    refine jr_if_eq 12 CC (jd ddX11_least 5 rfl) (by decide) (fun h => absurd h (by decide)) (fun _ => ?_)
    refine jr_iconst (v := 0) CC (jd ddX11_least 6 rfl) (by decide) ?_
    exact jr_iret CC MM (jd ddX11_least 7 rfl) rfl (by decide) (by decide) (Or.inr (Or.inr (Or.inl ⟨c3, rfl, rfl⟩)))
  · refine jr_norm [(m0, .inr (10, jmdl (upd R 44 3) mb)), ((mb 2), .inl (t 0, 784, .inl CU)), ((mb 3), .inl (t 0, 8, .inl LN)), ((mb 8), .inl (t 0, 16, .inl PT)), ((mb 9), .inl (t 0, 16, .inl ON)), ((mb 10), .inl (t 0, 16, .inl TW)), ((mb 11), .inl (t 0, 16, .inl SK)), ((mb 12), .inl (t 0, 784, .inl TC))] [.int 1] 7 0 0 rfl rfl rfl rfl rfl ?_
    refine jr_if_eq 12 CC (jd ddX11_least 5 rfl) (by decide) (fun h => absurd h (by decide)) (fun _ => ?_)
    refine jr_iconst (v := 0) CC (jd ddX11_least 6 rfl) (by decide) ?_
    exact jr_iret CC MM (jd ddX11_least 7 rfl) rfl (by decide) (by decide) (Or.inr (Or.inr (Or.inr ⟨c4, rfl, rfl⟩)))
set_option maxHeartbeats 8000000 in
set_option maxRecDepth 100000 in
theorem k_X11_greatest (l : Launch) (t : Nat → ClassId) (hfl : l.stackTraces = false) (m0 : Nat) (mb : Nat → Nat) (R : Nat → Int32) (CU : Nat → Int32) (LN : Nat → Int32) (PT : Nat → Int32) (ON : Nat → Int32) (TW : Nat → Int32) (SK : Nat → Int32) (TC : Nat → Int32) (m8 : Nat) (pn : Nat) (dn : Nat) (x : Int32) (src : Int32) (h28 : R 28 = nI m8) (hm8 : m8 ≤ 8) (hLN : lenOK LN m8) (hpn : R 37 = nI pn) (hp9 : pn ≤ 16) (hdn : R 41 = nI dn) (hd9 : dn ≤ 16) (hOK : ∀ z, z < pn → pOK PT ON TW z) (hS : dn = 1 → ∃ i0 : Nat, SK 0 = nI i0 ∧ i0 < 16) : jKx l t yX11_greatest (Cond.code yX11_greatest cX11_greatest 5 (some .int) :: jWS) { frames := 5, cells := 0, slots := 0, locals := 143 } [.ref m0, .int x, .int src] [(m0, .inr (10, jmdl R mb)), ((mb 2), .inl (t 0, 784, .inl CU)), ((mb 3), .inl (t 0, 8, .inl LN)), ((mb 8), .inl (t 0, 16, .inl PT)), ((mb 9), .inl (t 0, 16, .inl ON)), ((mb 10), .inl (t 0, 16, .inl TW)), ((mb 11), .inl (t 0, 16, .inl SK)), ((mb 12), .inl (t 0, 784, .inl TC))] (fun vv uu => (((eSrc (R 28) x src (nI dn)) = 0) ∧ vv = some (.int (rowHi (mAsk R CU LN PT ON TW SK TC x src) (LN x.toNatClampNeg))) ∧ uu = [(m0, .inr (10, jmdl (upd R 44 0) mb)), ((mb 2), .inl (t 0, 784, .inl CU)), ((mb 3), .inl (t 0, 8, .inl LN)), ((mb 8), .inl (t 0, 16, .inl PT)), ((mb 9), .inl (t 0, 16, .inl ON)), ((mb 10), .inl (t 0, 16, .inl TW)), ((mb 11), .inl (t 0, 16, .inl SK)), ((mb 12), .inl (t 0, 784, .inl (mTrc R CU LN PT ON TW TC x)))]) ∨ (((eSrc (R 28) x src (nI dn)) = 1) ∧ vv = some (.int 0) ∧ uu = [(m0, .inr (10, jmdl (upd R 44 1) mb)), ((mb 2), .inl (t 0, 784, .inl CU)), ((mb 3), .inl (t 0, 8, .inl LN)), ((mb 8), .inl (t 0, 16, .inl PT)), ((mb 9), .inl (t 0, 16, .inl ON)), ((mb 10), .inl (t 0, 16, .inl TW)), ((mb 11), .inl (t 0, 16, .inl SK)), ((mb 12), .inl (t 0, 784, .inl TC))]) ∨ (((eSrc (R 28) x src (nI dn)) = 2) ∧ vv = some (.int 0) ∧ uu = [(m0, .inr (10, jmdl (upd R 44 2) mb)), ((mb 2), .inl (t 0, 784, .inl CU)), ((mb 3), .inl (t 0, 8, .inl LN)), ((mb 8), .inl (t 0, 16, .inl PT)), ((mb 9), .inl (t 0, 16, .inl ON)), ((mb 10), .inl (t 0, 16, .inl TW)), ((mb 11), .inl (t 0, 16, .inl SK)), ((mb 12), .inl (t 0, 784, .inl TC))]) ∨ (((eSrc (R 28) x src (nI dn)) = 3) ∧ vv = some (.int 0) ∧ uu = [(m0, .inr (10, jmdl (upd R 44 3) mb)), ((mb 2), .inl (t 0, 784, .inl CU)), ((mb 3), .inl (t 0, 8, .inl LN)), ((mb 8), .inl (t 0, 16, .inl PT)), ((mb 9), .inl (t 0, 16, .inl ON)), ((mb 10), .inl (t 0, 16, .inl TW)), ((mb 11), .inl (t 0, 16, .inl SK)), ((mb 12), .inl (t 0, 784, .inl TC))])) (fun _ _ => False) := by
  refine jK_of hfl (by decide +kernel) (Nat.le_of_ble_eq_true rfl) ?_
  intro p e s m args below meth c D A Q CC MM
  refine jr_norm0 [(0, .ref m0), (1, .int x), (2, .int src)] rfl ?_
  refine jr_aload_n CC (jd ddX11_greatest 0 rfl) 0 rfl ?_
  refine jr_iload_n CC (jd ddX11_greatest 1 rfl) 1 rfl ?_
  refine jr_iload_n CC (jd ddX11_greatest 2 rfl) 2 rfl ?_
  refine jr_iconst (v := 1) CC (jd ddX11_greatest 3 rfl) (by decide) ?_
  refine jr_callV (q0 := 0) (rest := []) [.int x, .int src, .int 1] CC (jd ddX11_greatest 4 rfl) (jy_X11_231 CC) (k_X11_isNoSource_1 l t hfl m0 mb R CU LN PT ON TW SK TC m8 pn dn x src h28 hm8 hLN hpn hp9 hdn hd9 hOK hS) [0, 1, 2, 3, 4, 5, 6, 7] rfl (by decide) rfl rfl rfl rfl (by decide) (Nat.le_of_ble_eq_true rfl) (by rintro v u h; rcases h with ⟨h0, rfl, rfl⟩ | ⟨h0, rfl, rfl⟩ | ⟨h0, rfl, rfl⟩ | ⟨h0, rfl, rfl⟩ <;> exact (show ([m0, (mb 2), (mb 3), (mb 8), (mb 9), (mb 10), (mb 11), (mb 12)] : List Nat) = [m0, (mb 2), (mb 3), (mb 8), (mb 9), (mb 10), (mb 11), (mb 12)] from rfl)) (fun _ _ h => h.elim) (fun _ _ h => h.elim) (fun v u h => ?_)
  rcases h with ⟨c1, rfl, rfl⟩ | ⟨c2, rfl, rfl⟩ | ⟨c3, rfl, rfl⟩ | ⟨c4, rfl, rfl⟩
  · refine jr_norm [(m0, .inr (10, jmdl (upd R 44 0) mb)), ((mb 2), .inl (t 0, 784, .inl CU)), ((mb 3), .inl (t 0, 8, .inl LN)), ((mb 8), .inl (t 0, 16, .inl PT)), ((mb 9), .inl (t 0, 16, .inl ON)), ((mb 10), .inl (t 0, 16, .inl TW)), ((mb 11), .inl (t 0, 16, .inl SK)), ((mb 12), .inl (t 0, 784, .inl (mTrc R CU LN PT ON TW TC x)))] [.int 0] 7 0 0 rfl rfl rfl rfl rfl ?_
    refine jr_if_eq 12 CC (jd ddX11_greatest 5 rfl) (by decide) (fun _ => ?_) (fun h => absurd h (by decide))
    obtain ⟨r, s1, hr, hxr, hs1, hsr, hs2⟩ := eSrc_inv (h28 ▸ c1) hm8 hd9
    subst hxr
    have ntr : (nI r).toNatClampNeg = r := nI_tn (by omega)
    subst hsr
    have nts1 : (nI s1).toNatClampNeg = s1 := nI_tn (by omega)
    obtain ⟨kk, hkk, hk1, hk49⟩ := hLN r hr
    have hS9 : s1 = 2 → SK 0 = nI (SK 0).toNatClampNeg ∧ (SK 0).toNatClampNeg < 16 := fun q => (by obtain ⟨i0, hi0, hi9⟩ := hS (hs2 q); rw [hi0, nI_tn (by omega)]; exact ⟨rfl, hi9⟩)
    refine jr_aload_n CC (jd ddX11_greatest 8 rfl) 0 rfl ?_
    refine jr_iload_n CC (jd ddX11_greatest 9 rfl) 1 rfl ?_
    refine jr_iload_n CC (jd ddX11_greatest 10 rfl) 2 rfl ?_
    refine jr_iconst (v := 0) CC (jd ddX11_greatest 11 rfl) (by decide) ?_
    refine jr_callV (q0 := 0) (rest := []) [.int (nI r), .int (nI s1), .int 0] CC (jd ddX11_greatest 12 rfl) (jy_X11_235 CC) (k_X11_of l t hfl m0 mb (upd R 44 0) CU SK (mTrc R CU LN PT ON TW TC (nI r)) r s1 0 ((SK 0).toNatClampNeg) (by first | assumption | omega | decide) (by first | assumption | omega | decide) (by omega) hS9) [0, 1, 6, 7] rfl (by decide) rfl rfl rfl rfl (by decide) (Nat.le_of_ble_eq_true rfl) (by rintro v u h; rcases h with ⟨rfl, rfl⟩ <;> exact (show ([m0, (mb 2), (mb 11), (mb 12)] : List Nat) = [m0, (mb 2), (mb 11), (mb 12)] from rfl)) (fun _ _ h => h.elim) (fun _ _ h => h.elim) (fun v u h => ?_)
    rcases h with ⟨rfl, rfl⟩
    refine jr_norm [(m0, .inr (10, jmdl (upd R 44 0) mb)), ((mb 2), .inl (t 0, 784, .inl CU)), ((mb 3), .inl (t 0, 8, .inl LN)), ((mb 8), .inl (t 0, 16, .inl PT)), ((mb 9), .inl (t 0, 16, .inl ON)), ((mb 10), .inl (t 0, 16, .inl TW)), ((mb 11), .inl (t 0, 16, .inl SK)), ((mb 12), .inl (t 0, 784, .inl (mTrc R CU LN PT ON TW TC (nI r))))] [.int (mrow CU (mTrc R CU LN PT ON TW TC (nI r)) ((SK 0).toNatClampNeg) r s1 0)] 19 0 0 rfl rfl rfl rfl rfl ?_
    refine jr_istore_n 3 [(3, .int (mrow CU (mTrc R CU LN PT ON TW TC (nI r)) ((SK 0).toNatClampNeg) r s1 0)), (0, .ref m0), (1, .int (nI r)), (2, .int (nI s1))] CC (jd ddX11_greatest 13 rfl) rfl (by decide) rfl ?_
    refine jr_iconst (v := 1) CC (jd ddX11_greatest 14 rfl) (by decide) ?_
    refine jr_istore [(4, .int 1), (3, .int (mrow CU (mTrc R CU LN PT ON TW TC (nI r)) ((SK 0).toNatClampNeg) r s1 0)), (0, .ref m0), (1, .int (nI r)), (2, .int (nI s1))] CC (jd ddX11_greatest 15 rfl) (by decide) rfl ?_
    have hL6 : ∀ (d9 : Nat) (i : Nat) (acc : Int32) (hi1 : 1 ≤ i) (hi : i ≤ kk + 1) (hq : jhi (mrow CU (mTrc R CU LN PT ON TW TC (nI r)) (SK 0).toNatClampNeg r s1) (kk - 1) 1 ((mrow CU (mTrc R CU LN PT ON TW TC (nI r)) (SK 0).toNatClampNeg r s1) 0) = jhi (mrow CU (mTrc R CU LN PT ON TW TC (nI r)) (SK 0).toNatClampNeg r s1) (kk - i) i acc), kk - i < d9 → J p l e { frames := 5, cells := 0, slots := 0, locals := 143 } s m args below meth c D A 5 Q [(m0, .inr (10, jmdl (upd R 44 0) mb)), ((mb 2), .inl (t 0, 784, .inl CU)), ((mb 3), .inl (t 0, 8, .inl LN)), ((mb 8), .inl (t 0, 16, .inl PT)), ((mb 9), .inl (t 0, 16, .inl ON)), ((mb 10), .inl (t 0, 16, .inl TW)), ((mb 11), .inl (t 0, 16, .inl SK)), ((mb 12), .inl (t 0, 784, .inl (mTrc R CU LN PT ON TW TC (nI r))))] [(0, .ref m0), (1, .int (nI r)), (2, .int (nI s1)), (3, .int acc), (4, .int (nI i))] 23 [] 0 0 := by
      intro d9
      induction d9 with
      | zero => intro i acc hi1 hi hq hmu; exact absurd hmu (Nat.not_lt_zero _)
      | succ d9 ih23 =>
        intro i acc hi1 hi hq hmu
        refine jr_iload CC (jd ddX11_greatest 16 rfl) 4 rfl ?_
        refine jr_aload_n CC (jd ddX11_greatest 17 rfl) 0 rfl ?_
        refine jr_get (v := .ref (mb 3)) CC (jd ddX11_greatest 18 rfl) (jf_X11_33 CC) 0 rfl rfl ?_
        refine jr_iload_n CC (jd ddX11_greatest 19 rfl) 1 rfl ?_
        refine jr_ialdN CC (jd ddX11_greatest 20 rfl) 2 r rfl rfl (by omega) (by decide) ?_
        refine jr_st [.int (nI kk), .int (nI i)] (jst1 hkk) ?_
        refine jr_icmp_ge 65 CC (jd ddX11_greatest 21 rfl) (by decide) (fun c7 => ?_) (fun c7 => ?_)
        · have n7 := jle_of (a := kk) (b := i) c7 (by omega) (by omega)
          refine jr_iload_n CC (jd ddX11_greatest 39 rfl) 3 rfl ?_
          exact jr_iret CC MM (jd ddX11_greatest 40 rfl) rfl (by decide) (by decide) (Or.inl ⟨c1, by rw [rowHi, mAsk, nts1, ntr, hkk, nI_tn (show kk < 2147483648 by omega)]; exact congrArg (fun z => some (Value.int z)) ((show jhi (mrow CU (mTrc R CU LN PT ON TW TC (nI r)) (SK 0).toNatClampNeg r s1) (kk - i) i acc = acc by rw [show kk - i = 0 by omega]; rfl).symm.trans hq.symm), rfl⟩)
        · have n7 := jle_not (a := kk) (b := i) c7 (by omega) (by omega)
          refine jr_aload_n CC (jd ddX11_greatest 22 rfl) 0 rfl ?_
          refine jr_iload_n CC (jd ddX11_greatest 23 rfl) 1 rfl ?_
          refine jr_iload_n CC (jd ddX11_greatest 24 rfl) 2 rfl ?_
          refine jr_iload CC (jd ddX11_greatest 25 rfl) 4 rfl ?_
          refine jr_pc (pc' := 39) rfl ?_
          refine jr_callV (q0 := 0) (rest := []) [.int (nI r), .int (nI s1), .int (nI i)] CC (jd ddX11_greatest 26 rfl) (jy_X11_235 CC) (k_X11_of l t hfl m0 mb (upd R 44 0) CU SK (mTrc R CU LN PT ON TW TC (nI r)) r s1 i ((SK 0).toNatClampNeg) (by first | assumption | omega | decide) (by first | assumption | omega | decide) (by omega) hS9) [0, 1, 6, 7] rfl (by decide) rfl rfl rfl rfl (by decide) (Nat.le_of_ble_eq_true rfl) (by rintro v u h; rcases h with ⟨rfl, rfl⟩ <;> exact (show ([m0, (mb 2), (mb 11), (mb 12)] : List Nat) = [m0, (mb 2), (mb 11), (mb 12)] from rfl)) (fun _ _ h => h.elim) (fun _ _ h => h.elim) (fun v u h => ?_)
          rcases h with ⟨rfl, rfl⟩
          refine jr_norm [(m0, .inr (10, jmdl (upd R 44 0) mb)), ((mb 2), .inl (t 0, 784, .inl CU)), ((mb 3), .inl (t 0, 8, .inl LN)), ((mb 8), .inl (t 0, 16, .inl PT)), ((mb 9), .inl (t 0, 16, .inl ON)), ((mb 10), .inl (t 0, 16, .inl TW)), ((mb 11), .inl (t 0, 16, .inl SK)), ((mb 12), .inl (t 0, 784, .inl (mTrc R CU LN PT ON TW TC (nI r))))] [.int (mrow CU (mTrc R CU LN PT ON TW TC (nI r)) ((SK 0).toNatClampNeg) r s1 i)] 42 0 0 rfl rfl rfl rfl rfl ?_
          refine jr_iload_n CC (jd ddX11_greatest 27 rfl) 3 rfl ?_
          refine jr_icmp_le 57 CC (jd ddX11_greatest 28 rfl) (by decide) (fun c8 => ?_) (fun c8 => ?_)
          · refine jr_iload_n CC (jd ddX11_greatest 35 rfl) 3 rfl ?_
            refine jr_istore_n 3 [(3, .int acc), (0, .ref m0), (1, .int (nI r)), (2, .int (nI s1)), (4, .int (nI i))] CC (jd ddX11_greatest 36 rfl) rfl (by decide) rfl ?_
            refine jr_iinc [(4, .int (nI (i + 1))), (3, .int acc), (0, .ref m0), (1, .int (nI r)), (2, .int (nI s1))] CC (jd ddX11_greatest 37 rfl) 4 rfl (nI_1 _) (by decide) rfl ?_
            refine jr_goto 23 CC (jd ddX11_greatest 38 rfl) (by decide) ?_
            refine jr_norm [(m0, .inr (10, jmdl (upd R 44 0) mb)), ((mb 2), .inl (t 0, 784, .inl CU)), ((mb 3), .inl (t 0, 8, .inl LN)), ((mb 8), .inl (t 0, 16, .inl PT)), ((mb 9), .inl (t 0, 16, .inl ON)), ((mb 10), .inl (t 0, 16, .inl TW)), ((mb 11), .inl (t 0, 16, .inl SK)), ((mb 12), .inl (t 0, 784, .inl (mTrc R CU LN PT ON TW TC (nI r))))] [] 23 0 0 rfl rfl rfl rfl rfl ?_
            refine jr_lv [2, 3, 4, 1, 0] [(0, .ref m0), (1, .int (nI r)), (2, .int (nI s1)), (3, .int acc), (4, .int (nI (i + 1)))] rfl ?_
            exact ih23 (i + 1) acc (by omega) (by omega) (by rw [hq, show kk - i = (kk - (i + 1)) + 1 by omega]; show jhi (mrow CU (mTrc R CU LN PT ON TW TC (nI r)) (SK 0).toNatClampNeg r s1) (kk - (i + 1)) (i + 1) (jmax acc ((mrow CU (mTrc R CU LN PT ON TW TC (nI r)) (SK 0).toNatClampNeg r s1) i)) = _; rw [jmax_ge c8]) (by omega)
          · refine jr_aload_n CC (jd ddX11_greatest 29 rfl) 0 rfl ?_
            refine jr_iload_n CC (jd ddX11_greatest 30 rfl) 1 rfl ?_
            refine jr_iload_n CC (jd ddX11_greatest 31 rfl) 2 rfl ?_
            refine jr_iload CC (jd ddX11_greatest 32 rfl) 4 rfl ?_
            refine jr_callV (q0 := 0) (rest := []) [.int (nI r), .int (nI s1), .int (nI i)] CC (jd ddX11_greatest 33 rfl) (jy_X11_235 CC) (k_X11_of l t hfl m0 mb (upd R 44 0) CU SK (mTrc R CU LN PT ON TW TC (nI r)) r s1 i ((SK 0).toNatClampNeg) (by first | assumption | omega | decide) (by first | assumption | omega | decide) (by omega) hS9) [0, 1, 6, 7] rfl (by decide) rfl rfl rfl rfl (by decide) (Nat.le_of_ble_eq_true rfl) (by rintro v u h; rcases h with ⟨rfl, rfl⟩ <;> exact (show ([m0, (mb 2), (mb 11), (mb 12)] : List Nat) = [m0, (mb 2), (mb 11), (mb 12)] from rfl)) (fun _ _ h => h.elim) (fun _ _ h => h.elim) (fun v u h => ?_)
            rcases h with ⟨rfl, rfl⟩
            refine jr_norm [(m0, .inr (10, jmdl (upd R 44 0) mb)), ((mb 2), .inl (t 0, 784, .inl CU)), ((mb 3), .inl (t 0, 8, .inl LN)), ((mb 8), .inl (t 0, 16, .inl PT)), ((mb 9), .inl (t 0, 16, .inl ON)), ((mb 10), .inl (t 0, 16, .inl TW)), ((mb 11), .inl (t 0, 16, .inl SK)), ((mb 12), .inl (t 0, 784, .inl (mTrc R CU LN PT ON TW TC (nI r))))] [.int (mrow CU (mTrc R CU LN PT ON TW TC (nI r)) ((SK 0).toNatClampNeg) r s1 i)] 54 0 0 rfl rfl rfl rfl rfl ?_
            refine jr_goto 58 CC (jd ddX11_greatest 34 rfl) (by decide) ?_
            refine jr_istore_n 3 [(3, .int (mrow CU (mTrc R CU LN PT ON TW TC (nI r)) ((SK 0).toNatClampNeg) r s1 i)), (0, .ref m0), (1, .int (nI r)), (2, .int (nI s1)), (4, .int (nI i))] CC (jd ddX11_greatest 36 rfl) rfl (by decide) rfl ?_
            refine jr_iinc [(4, .int (nI (i + 1))), (3, .int (mrow CU (mTrc R CU LN PT ON TW TC (nI r)) ((SK 0).toNatClampNeg) r s1 i)), (0, .ref m0), (1, .int (nI r)), (2, .int (nI s1))] CC (jd ddX11_greatest 37 rfl) 4 rfl (nI_1 _) (by decide) rfl ?_
            refine jr_goto 23 CC (jd ddX11_greatest 38 rfl) (by decide) ?_
            refine jr_norm [(m0, .inr (10, jmdl (upd R 44 0) mb)), ((mb 2), .inl (t 0, 784, .inl CU)), ((mb 3), .inl (t 0, 8, .inl LN)), ((mb 8), .inl (t 0, 16, .inl PT)), ((mb 9), .inl (t 0, 16, .inl ON)), ((mb 10), .inl (t 0, 16, .inl TW)), ((mb 11), .inl (t 0, 16, .inl SK)), ((mb 12), .inl (t 0, 784, .inl (mTrc R CU LN PT ON TW TC (nI r))))] [] 23 0 0 rfl rfl rfl rfl rfl ?_
            refine jr_lv [2, 3, 4, 1, 0] [(0, .ref m0), (1, .int (nI r)), (2, .int (nI s1)), (3, .int (mrow CU (mTrc R CU LN PT ON TW TC (nI r)) ((SK 0).toNatClampNeg) r s1 i)), (4, .int (nI (i + 1)))] rfl ?_
            exact ih23 (i + 1) (mrow CU (mTrc R CU LN PT ON TW TC (nI r)) ((SK 0).toNatClampNeg) r s1 i) (by omega) (by omega) (by rw [hq, show kk - i = (kk - (i + 1)) + 1 by omega]; show jhi (mrow CU (mTrc R CU LN PT ON TW TC (nI r)) (SK 0).toNatClampNeg r s1) (kk - (i + 1)) (i + 1) (jmax acc ((mrow CU (mTrc R CU LN PT ON TW TC (nI r)) (SK 0).toNatClampNeg r s1) i)) = _; rw [jmax_lt c8]) (by omega)
    refine jr_norm [(m0, .inr (10, jmdl (upd R 44 0) mb)), ((mb 2), .inl (t 0, 784, .inl CU)), ((mb 3), .inl (t 0, 8, .inl LN)), ((mb 8), .inl (t 0, 16, .inl PT)), ((mb 9), .inl (t 0, 16, .inl ON)), ((mb 10), .inl (t 0, 16, .inl TW)), ((mb 11), .inl (t 0, 16, .inl SK)), ((mb 12), .inl (t 0, 784, .inl (mTrc R CU LN PT ON TW TC (nI r))))] [] 23 0 0 rfl rfl rfl rfl rfl ?_
    refine jr_lv [2, 3, 4, 1, 0] [(0, .ref m0), (1, .int (nI r)), (2, .int (nI s1)), (3, .int (mrow CU (mTrc R CU LN PT ON TW TC (nI r)) ((SK 0).toNatClampNeg) r s1 0)), (4, .int (nI 1))] rfl ?_
    exact hL6 (kk - 1 + 1) 1 (mrow CU (mTrc R CU LN PT ON TW TC (nI r)) ((SK 0).toNatClampNeg) r s1 0) (Nat.le_refl _) (by omega) rfl (Nat.lt_succ_self _)
  · refine jr_norm [(m0, .inr (10, jmdl (upd R 44 1) mb)), ((mb 2), .inl (t 0, 784, .inl CU)), ((mb 3), .inl (t 0, 8, .inl LN)), ((mb 8), .inl (t 0, 16, .inl PT)), ((mb 9), .inl (t 0, 16, .inl ON)), ((mb 10), .inl (t 0, 16, .inl TW)), ((mb 11), .inl (t 0, 16, .inl SK)), ((mb 12), .inl (t 0, 784, .inl TC))] [.int 1] 7 0 0 rfl rfl rfl rfl rfl ?_
    refine jr_if_eq 12 CC (jd ddX11_greatest 5 rfl) (by decide) (fun h => absurd h (by decide)) (fun _ => ?_)
    refine jr_iconst (v := 0) CC (jd ddX11_greatest 6 rfl) (by decide) ?_
    exact jr_iret CC MM (jd ddX11_greatest 7 rfl) rfl (by decide) (by decide) (Or.inr (Or.inl ⟨c2, rfl, rfl⟩))
  · refine jr_norm [(m0, .inr (10, jmdl (upd R 44 2) mb)), ((mb 2), .inl (t 0, 784, .inl CU)), ((mb 3), .inl (t 0, 8, .inl LN)), ((mb 8), .inl (t 0, 16, .inl PT)), ((mb 9), .inl (t 0, 16, .inl ON)), ((mb 10), .inl (t 0, 16, .inl TW)), ((mb 11), .inl (t 0, 16, .inl SK)), ((mb 12), .inl (t 0, 784, .inl TC))] [.int 1] 7 0 0 rfl rfl rfl rfl rfl ?_
    refine jr_if_eq 12 CC (jd ddX11_greatest 5 rfl) (by decide) (fun h => absurd h (by decide)) (fun _ => ?_)
    refine jr_iconst (v := 0) CC (jd ddX11_greatest 6 rfl) (by decide) ?_
    exact jr_iret CC MM (jd ddX11_greatest 7 rfl) rfl (by decide) (by decide) (Or.inr (Or.inr (Or.inl ⟨c3, rfl, rfl⟩)))
  · refine jr_norm [(m0, .inr (10, jmdl (upd R 44 3) mb)), ((mb 2), .inl (t 0, 784, .inl CU)), ((mb 3), .inl (t 0, 8, .inl LN)), ((mb 8), .inl (t 0, 16, .inl PT)), ((mb 9), .inl (t 0, 16, .inl ON)), ((mb 10), .inl (t 0, 16, .inl TW)), ((mb 11), .inl (t 0, 16, .inl SK)), ((mb 12), .inl (t 0, 784, .inl TC))] [.int 1] 7 0 0 rfl rfl rfl rfl rfl ?_
    refine jr_if_eq 12 CC (jd ddX11_greatest 5 rfl) (by decide) (fun h => absurd h (by decide)) (fun _ => ?_)
    refine jr_iconst (v := 0) CC (jd ddX11_greatest 6 rfl) (by decide) ?_
    exact jr_iret CC MM (jd ddX11_greatest 7 rfl) rfl (by decide) (by decide) (Or.inr (Or.inr (Or.inr ⟨c4, rfl, rfl⟩)))
theorem jmax1 {k : Nat} (h : 1 ≤ k) : max 1 k = k := Nat.max_eq_right h
set_option maxHeartbeats 8000000 in
set_option maxRecDepth 100000 in
theorem k_X11_average (l : Launch) (t : Nat → ClassId) (hfl : l.stackTraces = false) (m0 : Nat) (mb : Nat → Nat) (R : Nat → Int32) (CU : Nat → Int32) (LN : Nat → Int32) (PT : Nat → Int32) (ON : Nat → Int32) (TW : Nat → Int32) (SK : Nat → Int32) (TC : Nat → Int32) (m8 : Nat) (pn : Nat) (dn : Nat) (x : Int32) (src : Int32) (h28 : R 28 = nI m8) (hm8 : m8 ≤ 8) (hLN : lenOK LN m8) (hpn : R 37 = nI pn) (hp9 : pn ≤ 16) (hdn : R 41 = nI dn) (hd9 : dn ≤ 16) (hOK : ∀ z, z < pn → pOK PT ON TW z) (hS : dn = 1 → ∃ i0 : Nat, SK 0 = nI i0 ∧ i0 < 16) : jKx l t yX11_average (Cond.code yX11_average cX11_average 5 (some .double) :: jWS) { frames := 5, cells := 0, slots := 0, locals := 143 } [.ref m0, .int x, .int src] [(m0, .inr (10, jmdl R mb)), ((mb 2), .inl (t 0, 784, .inl CU)), ((mb 3), .inl (t 0, 8, .inl LN)), ((mb 8), .inl (t 0, 16, .inl PT)), ((mb 9), .inl (t 0, 16, .inl ON)), ((mb 10), .inl (t 0, 16, .inl TW)), ((mb 11), .inl (t 0, 16, .inl SK)), ((mb 12), .inl (t 0, 784, .inl TC))] (fun vv uu => (((eSrc (R 28) x src (nI dn)) = 0) ∧ vv = some (.double (rowAvg (mAsk R CU LN PT ON TW SK TC x src) (LN x.toNatClampNeg))) ∧ uu = [(m0, .inr (10, jmdl (upd R 44 0) mb)), ((mb 2), .inl (t 0, 784, .inl CU)), ((mb 3), .inl (t 0, 8, .inl LN)), ((mb 8), .inl (t 0, 16, .inl PT)), ((mb 9), .inl (t 0, 16, .inl ON)), ((mb 10), .inl (t 0, 16, .inl TW)), ((mb 11), .inl (t 0, 16, .inl SK)), ((mb 12), .inl (t 0, 784, .inl (mTrc R CU LN PT ON TW TC x)))]) ∨ (((eSrc (R 28) x src (nI dn)) = 1) ∧ vv = some (.double 0) ∧ uu = [(m0, .inr (10, jmdl (upd R 44 1) mb)), ((mb 2), .inl (t 0, 784, .inl CU)), ((mb 3), .inl (t 0, 8, .inl LN)), ((mb 8), .inl (t 0, 16, .inl PT)), ((mb 9), .inl (t 0, 16, .inl ON)), ((mb 10), .inl (t 0, 16, .inl TW)), ((mb 11), .inl (t 0, 16, .inl SK)), ((mb 12), .inl (t 0, 784, .inl TC))]) ∨ (((eSrc (R 28) x src (nI dn)) = 2) ∧ vv = some (.double 0) ∧ uu = [(m0, .inr (10, jmdl (upd R 44 2) mb)), ((mb 2), .inl (t 0, 784, .inl CU)), ((mb 3), .inl (t 0, 8, .inl LN)), ((mb 8), .inl (t 0, 16, .inl PT)), ((mb 9), .inl (t 0, 16, .inl ON)), ((mb 10), .inl (t 0, 16, .inl TW)), ((mb 11), .inl (t 0, 16, .inl SK)), ((mb 12), .inl (t 0, 784, .inl TC))]) ∨ (((eSrc (R 28) x src (nI dn)) = 3) ∧ vv = some (.double 0) ∧ uu = [(m0, .inr (10, jmdl (upd R 44 3) mb)), ((mb 2), .inl (t 0, 784, .inl CU)), ((mb 3), .inl (t 0, 8, .inl LN)), ((mb 8), .inl (t 0, 16, .inl PT)), ((mb 9), .inl (t 0, 16, .inl ON)), ((mb 10), .inl (t 0, 16, .inl TW)), ((mb 11), .inl (t 0, 16, .inl SK)), ((mb 12), .inl (t 0, 784, .inl TC))])) (fun _ _ => False) := by
  refine jK_of hfl (by decide +kernel) (Nat.le_of_ble_eq_true rfl) ?_
  intro p e s m args below meth c D A Q CC MM
  refine jr_norm0 [(0, .ref m0), (1, .int x), (2, .int src)] rfl ?_
  refine jr_aload_n CC (jd ddX11_average 0 rfl) 0 rfl ?_
  refine jr_iload_n CC (jd ddX11_average 1 rfl) 1 rfl ?_
  refine jr_iload_n CC (jd ddX11_average 2 rfl) 2 rfl ?_
  refine jr_iconst (v := 1) CC (jd ddX11_average 3 rfl) (by decide) ?_
  refine jr_callV (q0 := 0) (rest := []) [.int x, .int src, .int 1] CC (jd ddX11_average 4 rfl) (jy_X11_231 CC) (k_X11_isNoSource_1 l t hfl m0 mb R CU LN PT ON TW SK TC m8 pn dn x src h28 hm8 hLN hpn hp9 hdn hd9 hOK hS) [0, 1, 2, 3, 4, 5, 6, 7] rfl (by decide) rfl rfl rfl rfl (by decide) (Nat.le_of_ble_eq_true rfl) (by rintro v u h; rcases h with ⟨h0, rfl, rfl⟩ | ⟨h0, rfl, rfl⟩ | ⟨h0, rfl, rfl⟩ | ⟨h0, rfl, rfl⟩ <;> exact (show ([m0, (mb 2), (mb 3), (mb 8), (mb 9), (mb 10), (mb 11), (mb 12)] : List Nat) = [m0, (mb 2), (mb 3), (mb 8), (mb 9), (mb 10), (mb 11), (mb 12)] from rfl)) (fun _ _ h => h.elim) (fun _ _ h => h.elim) (fun v u h => ?_)
  rcases h with ⟨c1, rfl, rfl⟩ | ⟨c2, rfl, rfl⟩ | ⟨c3, rfl, rfl⟩ | ⟨c4, rfl, rfl⟩
  · refine jr_norm [(m0, .inr (10, jmdl (upd R 44 0) mb)), ((mb 2), .inl (t 0, 784, .inl CU)), ((mb 3), .inl (t 0, 8, .inl LN)), ((mb 8), .inl (t 0, 16, .inl PT)), ((mb 9), .inl (t 0, 16, .inl ON)), ((mb 10), .inl (t 0, 16, .inl TW)), ((mb 11), .inl (t 0, 16, .inl SK)), ((mb 12), .inl (t 0, 784, .inl (mTrc R CU LN PT ON TW TC x)))] [.int 0] 7 0 0 rfl rfl rfl rfl rfl ?_
    refine jr_if_eq 12 CC (jd ddX11_average 5 rfl) (by decide) (fun _ => ?_) (fun h => absurd h (by decide))
    obtain ⟨r, s1, hr, hxr, hs1, hsr, hs2⟩ := eSrc_inv (h28 ▸ c1) hm8 hd9
    subst hxr
    have ntr : (nI r).toNatClampNeg = r := nI_tn (by omega)
    subst hsr
    have nts1 : (nI s1).toNatClampNeg = s1 := nI_tn (by omega)
    obtain ⟨kk, hkk, hk1, hk49⟩ := hLN r hr
    have hS9 : s1 = 2 → SK 0 = nI (SK 0).toNatClampNeg ∧ (SK 0).toNatClampNeg < 16 := fun q => (by obtain ⟨i0, hi0, hi9⟩ := hS (hs2 q); rw [hi0, nI_tn (by omega)]; exact ⟨rfl, hi9⟩)
    refine jr_iconst (v := 0) CC (jd ddX11_average 8 rfl) (by decide) ?_
    refine jr_istore_n 3 [(3, .int 0), (0, .ref m0), (1, .int (nI r)), (2, .int (nI s1))] CC (jd ddX11_average 9 rfl) rfl (by decide) rfl ?_
    refine jr_iconst (v := 0) CC (jd ddX11_average 10 rfl) (by decide) ?_
    refine jr_istore [(4, .int 0), (3, .int 0), (0, .ref m0), (1, .int (nI r)), (2, .int (nI s1))] CC (jd ddX11_average 11 rfl) (by decide) rfl ?_
    have hL6 : ∀ (d9 : Nat) (i : Nat) (acc : Int32) (hi : i ≤ kk) (hq : jsum (mrow CU (mTrc R CU LN PT ON TW TC (nI r)) (SK 0).toNatClampNeg r s1) kk 0 0 = jsum (mrow CU (mTrc R CU LN PT ON TW TC (nI r)) (SK 0).toNatClampNeg r s1) (kk - i) i acc), kk - i < d9 → J p l e { frames := 5, cells := 0, slots := 0, locals := 143 } s m args below meth c D A 5 Q [(m0, .inr (10, jmdl (upd R 44 0) mb)), ((mb 2), .inl (t 0, 784, .inl CU)), ((mb 3), .inl (t 0, 8, .inl LN)), ((mb 8), .inl (t 0, 16, .inl PT)), ((mb 9), .inl (t 0, 16, .inl ON)), ((mb 10), .inl (t 0, 16, .inl TW)), ((mb 11), .inl (t 0, 16, .inl SK)), ((mb 12), .inl (t 0, 784, .inl (mTrc R CU LN PT ON TW TC (nI r))))] [(0, .ref m0), (1, .int (nI r)), (2, .int (nI s1)), (3, .int acc), (4, .int (nI i))] 17 [] 0 0 := by
      intro d9
      induction d9 with
      | zero => intro i acc hi hq hmu; exact absurd hmu (Nat.not_lt_zero _)
      | succ d9 ih17 =>
        intro i acc hi hq hmu
        refine jr_iload CC (jd ddX11_average 12 rfl) 4 rfl ?_
        refine jr_aload_n CC (jd ddX11_average 13 rfl) 0 rfl ?_
        refine jr_get (v := .ref (mb 3)) CC (jd ddX11_average 14 rfl) (jf_X11_33 CC) 0 rfl rfl ?_
        refine jr_iload_n CC (jd ddX11_average 15 rfl) 1 rfl ?_
        refine jr_ialdN CC (jd ddX11_average 16 rfl) 2 r rfl rfl (by omega) (by decide) ?_
        refine jr_st [.int (nI kk), .int (nI i)] (jst1 hkk) ?_
        refine jr_icmp_ge 45 CC (jd ddX11_average 17 rfl) (by decide) (fun c7 => ?_) (fun c7 => ?_)
        · have n7 := jle_of (a := kk) (b := i) c7 (by omega) (by omega)
          refine jr_iload_n CC (jd ddX11_average 28 rfl) 3 rfl ?_
          refine jr_i2d CC (jd ddX11_average 29 rfl) ?_
          refine jr_aload_n CC (jd ddX11_average 30 rfl) 0 rfl ?_
          refine jr_get (v := .ref (mb 3)) CC (jd ddX11_average 31 rfl) (jf_X11_33 CC) 0 rfl rfl ?_
          refine jr_pc (pc' := 51) rfl ?_
          refine jr_iload_n CC (jd ddX11_average 32 rfl) 1 rfl ?_
          refine jr_ialdN CC (jd ddX11_average 33 rfl) 2 r rfl rfl (by omega) (by decide) ?_
          refine jr_st [.int (nI kk), .double (FP.i2d acc)] (jst1 hkk) ?_
          refine jr_i2d CC (jd ddX11_average 34 rfl) ?_
          refine jr_ddiv CC (jd ddX11_average 35 rfl) (jdd (nI_ne0 (by omega) (by omega))) ?_
          exact jr_dret CC MM (jd ddX11_average 36 rfl) rfl (by decide) (by decide) (Or.inl ⟨c1, by rw [rowAvg, mAsk, nts1, ntr, hkk, nI_tn (show kk < 2147483648 by omega), jmax1 hk1]; exact congrArg (fun z => some (Value.double (FP.ddiv (FP.i2d z) (FP.i2d (nI kk))))) ((show jsum (mrow CU (mTrc R CU LN PT ON TW TC (nI r)) (SK 0).toNatClampNeg r s1) (kk - i) i acc = acc by rw [show kk - i = 0 by omega]; rfl).symm.trans hq.symm), rfl⟩)
        · have n7 := jle_not (a := kk) (b := i) c7 (by omega) (by omega)
          refine jr_iload_n CC (jd ddX11_average 18 rfl) 3 rfl ?_
          refine jr_aload_n CC (jd ddX11_average 19 rfl) 0 rfl ?_
          refine jr_iload_n CC (jd ddX11_average 20 rfl) 1 rfl ?_
          refine jr_iload_n CC (jd ddX11_average 21 rfl) 2 rfl ?_
          refine jr_pc (pc' := 32) rfl ?_
          refine jr_iload CC (jd ddX11_average 22 rfl) 4 rfl ?_
          refine jr_callV (q0 := 0) (rest := [.int acc]) [.int (nI r), .int (nI s1), .int (nI i)] CC (jd ddX11_average 23 rfl) (jy_X11_235 CC) (k_X11_of l t hfl m0 mb (upd R 44 0) CU SK (mTrc R CU LN PT ON TW TC (nI r)) r s1 i ((SK 0).toNatClampNeg) (by first | assumption | omega | decide) (by first | assumption | omega | decide) (by omega) hS9) [0, 1, 6, 7] rfl (by decide) rfl rfl rfl rfl (by decide) (Nat.le_of_ble_eq_true rfl) (by rintro v u h; rcases h with ⟨rfl, rfl⟩ <;> exact (show ([m0, (mb 2), (mb 11), (mb 12)] : List Nat) = [m0, (mb 2), (mb 11), (mb 12)] from rfl)) (fun _ _ h => h.elim) (fun _ _ h => h.elim) (fun v u h => ?_)
          rcases h with ⟨rfl, rfl⟩
          refine jr_norm [(m0, .inr (10, jmdl (upd R 44 0) mb)), ((mb 2), .inl (t 0, 784, .inl CU)), ((mb 3), .inl (t 0, 8, .inl LN)), ((mb 8), .inl (t 0, 16, .inl PT)), ((mb 9), .inl (t 0, 16, .inl ON)), ((mb 10), .inl (t 0, 16, .inl TW)), ((mb 11), .inl (t 0, 16, .inl SK)), ((mb 12), .inl (t 0, 784, .inl (mTrc R CU LN PT ON TW TC (nI r))))] [.int (mrow CU (mTrc R CU LN PT ON TW TC (nI r)) ((SK 0).toNatClampNeg) r s1 i), .int acc] 37 0 0 rfl rfl rfl rfl rfl ?_
          refine jr_iadd CC (jd ddX11_average 24 rfl) ?_
          refine jr_istore_n 3 [(3, .int (acc + (mrow CU (mTrc R CU LN PT ON TW TC (nI r)) ((SK 0).toNatClampNeg) r s1 i))), (0, .ref m0), (1, .int (nI r)), (2, .int (nI s1)), (4, .int (nI i))] CC (jd ddX11_average 25 rfl) rfl (by decide) rfl ?_
          refine jr_iinc [(4, .int (nI (i + 1))), (3, .int (acc + (mrow CU (mTrc R CU LN PT ON TW TC (nI r)) ((SK 0).toNatClampNeg) r s1 i))), (0, .ref m0), (1, .int (nI r)), (2, .int (nI s1))] CC (jd ddX11_average 26 rfl) 4 rfl (nI_1 _) (by decide) rfl ?_
          refine jr_goto 17 CC (jd ddX11_average 27 rfl) (by decide) ?_
          refine jr_norm [(m0, .inr (10, jmdl (upd R 44 0) mb)), ((mb 2), .inl (t 0, 784, .inl CU)), ((mb 3), .inl (t 0, 8, .inl LN)), ((mb 8), .inl (t 0, 16, .inl PT)), ((mb 9), .inl (t 0, 16, .inl ON)), ((mb 10), .inl (t 0, 16, .inl TW)), ((mb 11), .inl (t 0, 16, .inl SK)), ((mb 12), .inl (t 0, 784, .inl (mTrc R CU LN PT ON TW TC (nI r))))] [] 17 0 0 rfl rfl rfl rfl rfl ?_
          refine jr_lv [2, 3, 4, 1, 0] [(0, .ref m0), (1, .int (nI r)), (2, .int (nI s1)), (3, .int (acc + (mrow CU (mTrc R CU LN PT ON TW TC (nI r)) ((SK 0).toNatClampNeg) r s1 i))), (4, .int (nI (i + 1)))] rfl ?_
          exact ih17 (i + 1) (acc + (mrow CU (mTrc R CU LN PT ON TW TC (nI r)) ((SK 0).toNatClampNeg) r s1 i)) (by omega) (by rw [hq, show kk - i = (kk - (i + 1)) + 1 by omega]; rfl) (by omega)
    refine jr_norm [(m0, .inr (10, jmdl (upd R 44 0) mb)), ((mb 2), .inl (t 0, 784, .inl CU)), ((mb 3), .inl (t 0, 8, .inl LN)), ((mb 8), .inl (t 0, 16, .inl PT)), ((mb 9), .inl (t 0, 16, .inl ON)), ((mb 10), .inl (t 0, 16, .inl TW)), ((mb 11), .inl (t 0, 16, .inl SK)), ((mb 12), .inl (t 0, 784, .inl (mTrc R CU LN PT ON TW TC (nI r))))] [] 17 0 0 rfl rfl rfl rfl rfl ?_
    refine jr_lv [2, 3, 4, 1, 0] [(0, .ref m0), (1, .int (nI r)), (2, .int (nI s1)), (3, .int 0), (4, .int (nI 0))] rfl ?_
    exact hL6 (kk - 0 + 1) 0 0 (by omega) rfl (Nat.lt_succ_self _)
  · refine jr_norm [(m0, .inr (10, jmdl (upd R 44 1) mb)), ((mb 2), .inl (t 0, 784, .inl CU)), ((mb 3), .inl (t 0, 8, .inl LN)), ((mb 8), .inl (t 0, 16, .inl PT)), ((mb 9), .inl (t 0, 16, .inl ON)), ((mb 10), .inl (t 0, 16, .inl TW)), ((mb 11), .inl (t 0, 16, .inl SK)), ((mb 12), .inl (t 0, 784, .inl TC))] [.int 1] 7 0 0 rfl rfl rfl rfl rfl ?_
    refine jr_if_eq 12 CC (jd ddX11_average 5 rfl) (by decide) (fun h => absurd h (by decide)) (fun _ => ?_)
    refine jr_dconst0 CC (jd ddX11_average 6 rfl) ?_
    exact jr_dret CC MM (jd ddX11_average 7 rfl) rfl (by decide) (by decide) (Or.inr (Or.inl ⟨c2, rfl, rfl⟩))
  · refine jr_norm [(m0, .inr (10, jmdl (upd R 44 2) mb)), ((mb 2), .inl (t 0, 784, .inl CU)), ((mb 3), .inl (t 0, 8, .inl LN)), ((mb 8), .inl (t 0, 16, .inl PT)), ((mb 9), .inl (t 0, 16, .inl ON)), ((mb 10), .inl (t 0, 16, .inl TW)), ((mb 11), .inl (t 0, 16, .inl SK)), ((mb 12), .inl (t 0, 784, .inl TC))] [.int 1] 7 0 0 rfl rfl rfl rfl rfl ?_
    refine jr_if_eq 12 CC (jd ddX11_average 5 rfl) (by decide) (fun h => absurd h (by decide)) (fun _ => ?_)
    refine jr_dconst0 CC (jd ddX11_average 6 rfl) ?_
    exact jr_dret CC MM (jd ddX11_average 7 rfl) rfl (by decide) (by decide) (Or.inr (Or.inr (Or.inl ⟨c3, rfl, rfl⟩)))
  · refine jr_norm [(m0, .inr (10, jmdl (upd R 44 3) mb)), ((mb 2), .inl (t 0, 784, .inl CU)), ((mb 3), .inl (t 0, 8, .inl LN)), ((mb 8), .inl (t 0, 16, .inl PT)), ((mb 9), .inl (t 0, 16, .inl ON)), ((mb 10), .inl (t 0, 16, .inl TW)), ((mb 11), .inl (t 0, 16, .inl SK)), ((mb 12), .inl (t 0, 784, .inl TC))] [.int 1] 7 0 0 rfl rfl rfl rfl rfl ?_
    refine jr_if_eq 12 CC (jd ddX11_average 5 rfl) (by decide) (fun h => absurd h (by decide)) (fun _ => ?_)
    refine jr_dconst0 CC (jd ddX11_average 6 rfl) ?_
    exact jr_dret CC MM (jd ddX11_average 7 rfl) rfl (by decide) (by decide) (Or.inr (Or.inr (Or.inr ⟨c4, rfl, rfl⟩)))
