theorem jr_dup2 {p : Program} {l : Launch} {e : Env} {R : Room} {s : State} {m : MethodId} {args : Array Value} {below : List Frame} {meth : Method} {c : Code} {D : va_G} {t : Nat → ClassId} {A : Nat → Prop} {own : String} {cc : ByteArray} {nL : Nat} {Q : State → Prop} {ws : va_W} {lv : List (Nat × Value)} {pc : Nat} {rest : List Value} {k n : Nat} {v w : Value} (C : jC p l s m args c D t A own cc nL) (hd : decode cc pc = .ok (.dup2, 1)) (hv : v.category = 1) (hw : w.category = 1) (k9 : J p l e R s m args below meth c D A nL Q ws lv (pc + 1) (v :: w :: v :: w :: rest) k n) : J p l e R s m args below meth c D A nL Q ws lv pc (v :: w :: rest) k n := fun H locs ls hP hD hS hl => lv_dup2_11 C.1 C.2.1 hd hv hw (k9 H locs ls hP hD hS hl)
/-- the memory and the law's numbers behind arming, disarming, other lengths -/
def armP (fi : Int32) (n P q r : Nat) (g M9 g9 : Nat → Int32) (P9 q9 r9 : Nat) : Prop := pNum fi n M9 false P9 q9 r9 ∧ ((r9 = r ∧ P9 = P ∧ q9 = q) ∨ r9 = 0) ∧ g9 2 = nI P9 ∧ g9 3 = nI q9 ∧ ∀ k, k ≠ 2 → k ≠ 3 → g9 k = g k
theorem armP_dis {fi : Int32} {n P q r : Nat} {M g : Nat → Int32} {f : Bool} (h : pNum fi n M f P q r) (h2 : g 2 = nI P) (h3 : g 3 = nI q) : armP fi n P q r g (upd M 3 0) g P q r := by
  obtain ⟨a1, a2, a3, a4, a5, a6, a7, a8, ⟨ff, b1, b2, b3⟩, a10⟩ := h
  refine ⟨⟨?_, a2, ?_, a4, ?_, a6, Or.inl pk_us, ?_, ⟨ff, b1, ?_, b3⟩, ?_⟩, Or.inl ⟨rfl, rfl, rfl⟩, h2, h3, fun _ _ _ => rfl⟩
  · rw [pk_un (by decide)]; exact a1
  · rw [pk_un (by decide)]; exact a3
  · rw [pk_un (by decide)]; exact a5
  · rw [pk_un (by decide), pk_un (by decide)]; exact a8
  · show r + 0 ≤ ff; omega
  · rw [pk_un (by decide)]; exact a10
def armd (M : Nat → Int32) : Nat → Int32 := upd (upd (upd (upd (upd M 3 1) 1 0) 7 0) 9 0) 10 (-1)
theorem armd_v (M : Nat → Int32) : armd M 1 = 0 ∧ armd M 3 = 1 ∧ armd M 4 = M 4 ∧ armd M 5 = M 5 ∧ armd M 6 = M 6 ∧ armd M 9 = 0 ∧ armd M 10 = -1 := by
  unfold armd
  refine ⟨?_, ?_, ?_, ?_, ?_, ?_, ?_⟩
  · rw [pk_un (by decide), pk_un (by decide), pk_un (by decide), pk_us]
  · rw [pk_un (by decide), pk_un (by decide), pk_un (by decide), pk_un (by decide), pk_us]
  · rw [pk_un (by decide), pk_un (by decide), pk_un (by decide), pk_un (by decide), pk_un (by decide)]
  · rw [pk_un (by decide), pk_un (by decide), pk_un (by decide), pk_un (by decide), pk_un (by decide)]
  · rw [pk_un (by decide), pk_un (by decide), pk_un (by decide), pk_un (by decide), pk_un (by decide)]
  · rw [pk_un (by decide), pk_us]
  · rw [pk_us]
theorem pNum_arm {fi : Int32} {n P q r P9 q9 : Nat} {M M0 : Nat → Int32} {f : Bool} (h : pNum fi n M0 f P q r) (h4 : M 4 = nI P9) (hP : P9 ≤ 16) (h5 : M 5 = nI q9) (hq : q9 ≤ 32) (h6 : M 6 = M0 6) : pNum fi n (armd M) false P9 q9 0 := by
  obtain ⟨a1, a2, a3, a4, a5, a6, a7, a8, ⟨ff, b1, b2, b3⟩, a10⟩ := h
  obtain ⟨v1, v3, v4, v5, v6, v9, v10⟩ := armd_v M
  exact ⟨v1, by decide, v4.trans h4, hP, v5.trans h5, hq, Or.inr ⟨v3, by decide⟩, ⟨0, Nat.le_refl _, v9, Or.inl ⟨rfl, v10⟩⟩, ⟨ff, b1, Nat.zero_le _, b3⟩, by rw [v6, h6]; exact a10⟩
theorem eLen_ok {a b : Nat} {ar : Int32} (h : a ≤ 16 ∧ b ≤ 32) : eLen (nI a) (nI b) ar = if ar = 0 then 0 else 2 := by
  unfold eLen
  rw [jI_t ⟨⟨nI_pos (by omega), nI_le (b := 16) h.1 (by decide)⟩, ⟨nI_pos (by omega), nI_le (b := 32) h.2 (by decide)⟩⟩]
theorem eLen_no {a b : Nat} {ar : Int32} (h : ¬ (a ≤ 16 ∧ b ≤ 32)) (ha : a < 100000) (hb : b < 100000) : eLen (nI a) (nI b) ar = 1 := by
  unfold eLen
  rw [jI_f]
  intro q
  have h1 := (nI_leI (a := a) (b := 16) (by omega) (by decide)).mp q.1.2
  have h2 := (nI_leI (a := b) (b := 32) (by omega) (by decide)).mp q.2.2
  exact h ⟨h1, h2⟩
/-- the expression and the law's numbers behind a part -/
def putP (pn9 ht9 : Nat) (g DA9 g9 : Nat → Int32) : Prop := pn9 ≤ 16 ∧ ht9 ≤ pn9 ∧ (∀ z, z < pn9 → i6 (DA9 z)) ∧ g9 4 = nI pn9 ∧ g9 5 = nI ht9 ∧ ∀ k, k ≠ 4 → k ≠ 5 → g9 k = g k
theorem putP_of {pn9 ht9 : Nat} {g DA9 : Nat → Int32} {x y : Int32} (h1 : pn9 ≤ 16) (h2 : ht9 ≤ pn9) (h3 : ∀ z, z < pn9 → i6 (DA9 z)) (hx : x = nI pn9) (hy : y = nI ht9) : putP pn9 ht9 g DA9 (upd (upd g 4 x) 5 y) := by
  subst hx hy
  exact ⟨h1, h2, h3, by rw [pk_un (by decide), pk_us], by rw [pk_us], fun k a b => by rw [pk_un b, pk_un a]⟩
theorem putP_D {pn : Nat} {DA : Nat → Int32} {k : Nat} (h : ∀ z, z < pn → i6 (DA z)) (hk : k < 2000) : ∀ z, z < pn + 1 → i6 (upd DA pn (nI k) z) := by
  intro z hz
  by_cases e : z = pn
  · subst e; rw [pk_us]; unfold i6; rw [nI_toInt (by omega)]; omega
  · rw [pk_un e]; exact h z (by omega)
theorem nI_inr {a b x : Nat} (hb : b < 1000000) (hx : x < 1000000) : jin (nI x) (nI a) (nI b) ↔ ¬ nI x < nI a ∧ x ≤ b := by
  unfold jin
  rw [nI_leI (by omega) (by omega)]
theorem e_in {b x : Nat} (hb : b < 1000000) (hx : x < 1000000) : jin (nI x) 0 (nI b) ↔ x ≤ b := by
  rw [show (0 : Int32) = nI 0 from rfl, nI_inr hb hx]
  exact ⟨fun h => h.2, fun h => ⟨nI_pos (by omega), h⟩⟩
theorem p16 {pn : Nat} (h : pn ≤ 16) : nI pn < (16 : Int32) ↔ pn < 16 := nI_ltI (a := pn) (b := 16) (by omega) (by decide)
theorem p_le {a x : Nat} (ha : a < 100) (hx : x ≤ 16) : nI a ≤ nI x ↔ a ≤ x := nI_leI (by omega) (by omega)
theorem ePutC_v {x pn : Nat} (hx : x < 1000000) (hp : pn ≤ 16) : ePutC (nI x) (nI pn) = if x < 2 then (if pn < 16 then 0 else 2) else 1 := by
  unfold ePutC
  by_cases h : x < 2
  · rw [jI_t (show jin (nI x) 0 1 from (e_in (b := 1) (by decide) hx).mpr (by omega)), if_pos h]; simp only [p16 hp]
  · rw [jI_f (fun q => h (by have := (e_in (b := 1) (by decide) hx).mp q; omega)), if_neg h]
theorem ePutK_v {x pn : Nat} (hx : x < 1000000) (hp : pn ≤ 16) : ePutK (nI x) (nI pn) = if x < 1001 then (if pn < 16 then 0 else 2) else 1 := by
  have e : jin (nI x) (-1000) 1000 ↔ x < 1001 := by
    have h1 : nI x ≤ (1000 : Int32) ↔ x ≤ 1000 := nI_leI (a := x) (b := 1000) (by omega) (by decide)
    have h2 : ¬ nI x < -1000 := by rw [ti_lt, nI_toInt (by omega), show (-1000 : Int32).toInt = -1000 from by decide]; omega
    unfold jin
    rw [h1]
    exact ⟨fun q => by omega, fun q => ⟨h2, by omega⟩⟩
  unfold ePutK
  by_cases h : x < 1001
  · rw [jI_t (e.mpr h), if_pos h]; simp only [p16 hp]
  · rw [jI_f (fun q => h (e.mp q)), if_neg h]
theorem eApply_v {x pn ht : Nat} (hx : x < 1000000) (hp : pn ≤ 16) (hh : ht ≤ 16) : eApply (nI x) (nI pn) (nI ht) = if x < 4 then (if pn < 16 then (if 1 ≤ ht then 0 else 2) else 2) else 1 := by
  have e1 : (1 : Int32) ≤ nI ht ↔ 1 ≤ ht := nI_leI (a := 1) (b := ht) (by decide) (by omega)
  unfold eApply
  by_cases h : x < 4
  · rw [jI_t (show jin (nI x) 0 3 from (e_in (b := 3) (by decide) hx).mpr (by omega)), if_pos h]; simp only [p16 hp, e1]
  · rw [jI_f (fun q => h (by have := (e_in (b := 3) (by decide) hx).mp q; omega)), if_neg h]
theorem if2 {pn ht k : Nat} (h : ¬ (pn < 16 ∧ k ≤ ht)) : (if pn < 16 then (if k ≤ ht then 0 else 2) else 2 : Int32) = 2 := by
  by_cases h1 : pn < 16
  · rw [if_pos h1, if_neg (fun q => h ⟨h1, q⟩)]
  · rw [if_neg h1]
theorem eComb_v {x pn ht : Nat} (hx : x < 1000000) (hp : pn ≤ 16) (hh : ht ≤ 16) : eComb (nI x) (nI pn) (nI ht) = if x < 5 then (if pn < 16 then (if 2 ≤ ht then 0 else 2) else 2) else 1 := by
  have e1 : (2 : Int32) ≤ nI ht ↔ 2 ≤ ht := nI_leI (a := 2) (b := ht) (by decide) (by omega)
  unfold eComb
  by_cases h : x < 5
  · rw [jI_t (show jin (nI x) 0 4 from (e_in (b := 4) (by decide) hx).mpr (by omega)), if_pos h]; simp only [p16 hp, e1]
  · rw [jI_f (fun q => h (by have := (e_in (b := 4) (by decide) hx).mp q; omega)), if_neg h]
set_option maxHeartbeats 8000000 in
set_option maxRecDepth 100000 in
theorem k_L_isArmed (l : Launch) (t : Nat → ClassId) (hfl : l.stackTraces = false) (h0 : Nat) (x1 : Nat) (x2 : Nat) (x3 : Nat) (x4 : Nat) (x5 : Nat) (x6 : Nat) (fi : Int32) (M : Nat → Int32) (ca : Nat) (cg : Option Nat) (bg : Nat) (g : Nat → Int32) (n : Nat) (P : Nat) (q : Nat) (m8 : Nat) (ka : Nat) (kb : Nat) (f : Bool) (hNum : pNum fi n M f P q m8) (hg2 : g 2 = nI P) (hg3 : g 3 = nI q) (hz : ka < 10000 ∧ kb < 10000) : jKx l t yL_isArmed (Cond.code yL_isArmed cL_isArmed 11 (some .boolean) :: jWS) { frames := 10, cells := 3, slots := 18, locals := 179 } [.ref h0, .ref bg, .int (nI ka), .int (nI kb)] [(h0, .inr (9, [.ref x1, .ref x2, .ref x3, .ref x4, .ref x5, .ref x6, .int fi])), (x2, .inr (5, jmem M ca cg)), (bg, .inl (t 0, 7, .inl g))] (fun vv uu => (vv = some (.int 1) ∧ uu = [(h0, .inr (9, [.ref x1, .ref x2, .ref x3, .ref x4, .ref x5, .ref x6, .int fi])), (x2, .inr (5, jmem M ca cg)), (bg, .inl (t 0, 7, .inl g))]) ∨ (∃ M9 : Nat → Int32, ∃ g9 : Nat → Int32, ∃ P9 : Nat, ∃ q9 : Nat, ∃ r9 : Nat, (armP fi n P q m8 g M9 g9 P9 q9 r9) ∧ vv = some (.int 1) ∧ uu = [(h0, .inr (9, [.ref x1, .ref x2, .ref x3, .ref x4, .ref x5, .ref x6, .int fi])), (x2, .inr (5, jmem M9 ca none)), (bg, .inl (t 0, 7, .inl g9))])) (fun _ _ => False) := by
  refine jK_of hfl (by decide +kernel) (Nat.le_of_ble_eq_true rfl) ?_
  intro p e s m args below meth c D A Q CC MM
  refine jr_norm0 [(0, .ref h0), (1, .ref bg), (2, .int (nI ka)), (3, .int (nI kb))] rfl ?_
  obtain ⟨hM1, hm8, hM4, hP, hM5, hq, har, -⟩ := id hNum
  refine jr_aload_n CC (jd ddL_isArmed 0 rfl) 0 rfl ?_
  refine jr_callV (q0 := 0) (rest := []) [] CC (jd ddL_isArmed 1 rfl) (jy_L_146 CC) (k_X10_records l t hfl h0 x1 x2 x3 x4 x5 x6 fi M ca cg) [0, 1] rfl (by decide) rfl rfl rfl rfl (by decide) (Nat.le_of_ble_eq_true rfl) (by rintro v u h; rcases h with ⟨rfl, rfl⟩ <;> exact (show ([h0, x2] : List Nat) = [h0, x2] from rfl)) (fun _ _ h => h.elim) (fun _ _ h => h.elim) (fun v u h => ?_)
  rcases h with ⟨rfl, rfl⟩
  refine jr_norm [(h0, .inr (9, [.ref x1, .ref x2, .ref x3, .ref x4, .ref x5, .ref x6, .int fi])), (x2, .inr (5, jmem M ca cg)), (bg, .inl (t 0, 7, .inl g))] [.int (M 1)] 4 0 0 rfl rfl rfl rfl rfl ?_
  refine jr_st [.int (nI m8)] (jst1 (hM1)) ?_
  refine jr_istore [(4, .int (nI m8)), (0, .ref h0), (1, .ref bg), (2, .int (nI ka)), (3, .int (nI kb))] CC (jd ddL_isArmed 2 rfl) (by decide) rfl ?_
  refine jr_aload_n CC (jd ddL_isArmed 3 rfl) 1 rfl ?_
  refine jr_callV (q0 := 0) (rest := []) [] CC (jd ddL_isArmed 4 rfl) (jy_L_159 CC) (k_X10_isArmed l t hfl h0 x1 x2 x3 x4 x5 x6 fi M ca cg (har.imp id And.left)) [0, 1] rfl (by decide) rfl rfl rfl rfl (by decide) (Nat.le_of_ble_eq_true rfl) (by rintro v u h; rcases h with ⟨rfl, rfl⟩ <;> exact (show ([h0, x2] : List Nat) = [h0, x2] from rfl)) (fun _ _ h => h.elim) (fun _ _ h => h.elim) (fun v u h => ?_)
  rcases h with ⟨rfl, rfl⟩
  refine jr_norm [(h0, .inr (9, [.ref x1, .ref x2, .ref x3, .ref x4, .ref x5, .ref x6, .int fi])), (x2, .inr (5, jmem M ca cg)), (bg, .inl (t 0, 7, .inl g))] [.int (M 3)] 10 0 0 rfl rfl rfl rfl rfl ?_
  refine (Classical.em (M 3 = 0)).elim (fun h30 => ?_) (fun h30 => ?_)
  · refine jr_st [.int 0] (jst1 (h30)) ?_
    refine jr_istore [(5, .int 0), (4, .int (nI m8)), (0, .ref h0), (1, .ref bg), (2, .int (nI ka)), (3, .int (nI kb))] CC (jd ddL_isArmed 5 rfl) (by decide) rfl ?_
    refine jr_iload_n CC (jd ddL_isArmed 6 rfl) 4 rfl ?_
    refine jr_iconst (v := 4) CC (jd ddL_isArmed 7 rfl) (by decide) ?_
    refine jr_irem CC (jd ddL_isArmed 8 rfl) (by decide) ?_
    refine jr_st [.int (nI (ka % 4))] (jst1 (pk_rem (a := ka) (d := 4) (by omega) (by omega) (by omega))) ?_
    refine jr_if_ne 56 CC (jd ddL_isArmed 9 rfl) (by decide) (fun c1 => ?_) (fun c1 => ?_)
    · have n1 := jeq_not (a := (ka % 4)) (b := 0) c1 (by omega) (by omega)
      refine jr_iload_n CC (jd ddL_isArmed 28 rfl) 5 rfl ?_
      refine jr_bipush (v := 18) CC (jd ddL_isArmed 29 rfl) (by decide) ?_
      refine jr_irem CC (jd ddL_isArmed 30 rfl) (by decide) ?_
      refine jr_st [.int (nI (kb % 18))] (jst1 (pk_rem (a := kb) (d := 18) (by omega) (by omega) (by omega))) ?_
      refine jr_istore [(6, .int (nI (kb % 18))), (5, .int 0), (4, .int (nI m8)), (0, .ref h0), (1, .ref bg), (2, .int (nI ka)), (3, .int (nI kb))] CC (jd ddL_isArmed 31 rfl) (by decide) rfl ?_
      refine jr_iload_n CC (jd ddL_isArmed 32 rfl) 5 rfl ?_
      refine jr_pc (pc' := 63) rfl ?_
      refine jr_bipush (v := 34) CC (jd ddL_isArmed 33 rfl) (by decide) ?_
      refine jr_irem CC (jd ddL_isArmed 34 rfl) (by decide) ?_
      refine jr_st [.int (nI (ka % 34))] (jst1 (pk_rem (a := ka) (d := 34) (by omega) (by omega) (by omega))) ?_
      refine jr_istore [(7, .int (nI (ka % 34))), (6, .int (nI (kb % 18))), (5, .int 0), (4, .int (nI m8)), (0, .ref h0), (1, .ref bg), (2, .int (nI ka)), (3, .int (nI kb))] CC (jd ddL_isArmed 35 rfl) (by decide) rfl ?_
      refine jr_iload CC (jd ddL_isArmed 36 rfl) 2 rfl ?_
      refine jr_if_eq 115 CC (jd ddL_isArmed 37 rfl) (by decide) (fun _ => ?_) (fun h => absurd h (by decide))
      refine jr_aload_n CC (jd ddL_isArmed 60 rfl) 4 rfl ?_
      refine jr_callV (q0 := 0) (rest := []) [] CC (jd ddL_isArmed 61 rfl) (jy_L_188 CC) (k_X10_arm l t hfl h0 x1 x2 x3 x4 x5 x6 fi M ca cg) [0, 1] rfl (by decide) rfl rfl rfl rfl (by decide) (Nat.le_of_ble_eq_true rfl) (by rintro v u h; rcases h with ⟨rfl, rfl⟩ <;> exact (show ([h0, x2] : List Nat) = [h0, x2] from rfl)) (fun _ _ h => h.elim) (fun _ _ h => h.elim) (fun v u h => ?_)
      rcases h with ⟨rfl, rfl⟩
      refine jr_norm [(h0, .inr (9, [.ref x1, .ref x2, .ref x3, .ref x4, .ref x5, .ref x6, .int fi])), (x2, .inr (5, jmem (upd (upd (upd (upd (upd M 3 1) 1 0) 7 0) 9 0) 10 (-1)) ca none)), (bg, .inl (t 0, 7, .inl g))] [.int (M 1)] 119 0 0 rfl rfl rfl rfl rfl ?_
      refine jr_st [.int (nI m8)] (jst1 (hM1)) ?_
      refine jr_ws [(h0, .inr (9, [.ref x1, .ref x2, .ref x3, .ref x4, .ref x5, .ref x6, .int fi])), (x2, .inr (5, jmem (armd M) ca none)), (bg, .inl (t 0, 7, .inl g))] rfl ?_
      refine jr_iload CC (jd ddL_isArmed 62 rfl) 3 rfl ?_
      refine jr_icmp_ne 163 CC (jd ddL_isArmed 63 rfl) (by decide) (fun h => absurd h (fun h9 => h9 rfl)) (fun _ => ?_)
      refine jr_aload_n CC (jd ddL_isArmed 64 rfl) 4 rfl ?_
      refine jr_callV (q0 := 0) (rest := []) [] CC (jd ddL_isArmed 65 rfl) (jy_L_159 CC) (k_X10_isArmed l t hfl h0 x1 x2 x3 x4 x5 x6 fi (armd M) ca none (Or.inr (armd_v _).2.1)) [0, 1] rfl (by decide) rfl rfl rfl rfl (by decide) (Nat.le_of_ble_eq_true rfl) (by rintro v u h; rcases h with ⟨rfl, rfl⟩ <;> exact (show ([h0, x2] : List Nat) = [h0, x2] from rfl)) (fun _ _ h => h.elim) (fun _ _ h => h.elim) (fun v u h => ?_)
      rcases h with ⟨rfl, rfl⟩
      refine jr_norm [(h0, .inr (9, [.ref x1, .ref x2, .ref x3, .ref x4, .ref x5, .ref x6, .int fi])), (x2, .inr (5, jmem (armd M) ca none)), (bg, .inl (t 0, 7, .inl g))] [.int ((armd M) 3)] 128 0 0 rfl rfl rfl rfl rfl ?_
      refine jr_st [.int 1] (jst1 ((armd_v _).2.1)) ?_
      refine jr_if_eq 163 CC (jd ddL_isArmed 66 rfl) (by decide) (fun h => absurd h (by decide)) (fun _ => ?_)
      refine jr_aload_n CC (jd ddL_isArmed 67 rfl) 4 rfl ?_
      refine jr_callV (q0 := 0) (rest := []) [] CC (jd ddL_isArmed 68 rfl) (jy_L_146 CC) (k_X10_records l t hfl h0 x1 x2 x3 x4 x5 x6 fi (armd M) ca none) [0, 1] rfl (by decide) rfl rfl rfl rfl (by decide) (Nat.le_of_ble_eq_true rfl) (by rintro v u h; rcases h with ⟨rfl, rfl⟩ <;> exact (show ([h0, x2] : List Nat) = [h0, x2] from rfl)) (fun _ _ h => h.elim) (fun _ _ h => h.elim) (fun v u h => ?_)
      rcases h with ⟨rfl, rfl⟩
      refine jr_norm [(h0, .inr (9, [.ref x1, .ref x2, .ref x3, .ref x4, .ref x5, .ref x6, .int fi])), (x2, .inr (5, jmem (armd M) ca none)), (bg, .inl (t 0, 7, .inl g))] [.int ((armd M) 1)] 135 0 0 rfl rfl rfl rfl rfl ?_
      refine jr_st [.int 0] (jst1 ((armd_v _).1)) ?_
      refine jr_if_ne 163 CC (jd ddL_isArmed 69 rfl) (by decide) (fun h => absurd h (by decide)) (fun _ => ?_)
      refine jr_aload_n CC (jd ddL_isArmed 70 rfl) 4 rfl ?_
      refine jr_callV (q0 := 0) (rest := []) [] CC (jd ddL_isArmed 71 rfl) (jy_L_162 CC) (k_X10_failures l t hfl h0 x1 x2 x3 x4 x5 x6 fi (armd M) ca none) [0, 1] rfl (by decide) rfl rfl rfl rfl (by decide) (Nat.le_of_ble_eq_true rfl) (by rintro v u h; rcases h with ⟨rfl, rfl⟩ <;> exact (show ([h0, x2] : List Nat) = [h0, x2] from rfl)) (fun _ _ h => h.elim) (fun _ _ h => h.elim) (fun v u h => ?_)
      rcases h with ⟨rfl, rfl⟩
      refine jr_norm [(h0, .inr (9, [.ref x1, .ref x2, .ref x3, .ref x4, .ref x5, .ref x6, .int fi])), (x2, .inr (5, jmem (armd M) ca none)), (bg, .inl (t 0, 7, .inl g))] [.int ((armd M) 9)] 142 0 0 rfl rfl rfl rfl rfl ?_
      refine jr_st [.int 0] (jst1 ((armd_v _).2.2.2.2.2.1)) ?_
      refine jr_if_ne 163 CC (jd ddL_isArmed 72 rfl) (by decide) (fun h => absurd h (by decide)) (fun _ => ?_)
      refine jr_aload_n CC (jd ddL_isArmed 73 rfl) 4 rfl ?_
      refine jr_callV (q0 := 0) (rest := []) [] CC (jd ddL_isArmed 74 rfl) (jy_L_155 CC) (k_X10_isCatching_u l t hfl h0 x1 x2 x3 x4 x5 x6 fi (armd M) ca none) [0, 1] rfl (by decide) rfl rfl rfl rfl (by decide) (Nat.le_of_ble_eq_true rfl) (by rintro v u h; rcases h with ⟨rfl, rfl⟩ <;> exact (show ([h0, x2] : List Nat) = [h0, x2] from rfl)) (fun _ _ h => h.elim) (fun _ _ h => h.elim) (fun v u h => ?_)
      rcases h with ⟨rfl, rfl⟩
      refine jr_norm [(h0, .inr (9, [.ref x1, .ref x2, .ref x3, .ref x4, .ref x5, .ref x6, .int fi])), (x2, .inr (5, jmem (armd M) ca none)), (bg, .inl (t 0, 7, .inl g))] [.int (cgB none)] 149 0 0 rfl rfl rfl rfl rfl ?_
      refine jr_st [.int 0] (jst1 (rfl)) ?_
      refine jr_if_ne 163 CC (jd ddL_isArmed 75 rfl) (by decide) (fun h => absurd h (by decide)) (fun _ => ?_)
      refine jr_aload_n CC (jd ddL_isArmed 76 rfl) 4 rfl ?_
      refine jr_callV (q0 := 0) (rest := []) [] CC (jd ddL_isArmed 77 rfl) (jy_L_185 CC) (k_X10_disarm l t hfl h0 x1 x2 x3 x4 x5 x6 fi (armd M) ca none (Or.inr (armd_v _).2.1)) [0, 1] rfl (by decide) rfl rfl rfl rfl (by decide) (Nat.le_of_ble_eq_true rfl) (by rintro v u h; rcases h with ⟨rfl, rfl⟩ <;> exact (show ([h0, x2] : List Nat) = [h0, x2] from rfl)) (fun _ _ h => h.elim) (fun _ _ h => h.elim) (fun v u h => ?_)
      rcases h with ⟨rfl, rfl⟩
      refine jr_norm [(h0, .inr (9, [.ref x1, .ref x2, .ref x3, .ref x4, .ref x5, .ref x6, .int fi])), (x2, .inr (5, jmem (upd (armd M) 3 0) ca none)), (bg, .inl (t 0, 7, .inl g))] [.int ((armd M) 3)] 156 0 0 rfl rfl rfl rfl rfl ?_
      refine jr_st [.int 1] (jst1 ((armd_v _).2.1)) ?_
      refine jr_if_eq 163 CC (jd ddL_isArmed 78 rfl) (by decide) (fun h => absurd h (by decide)) (fun _ => ?_)
      refine jr_iconst (v := 1) CC (jd ddL_isArmed 79 rfl) (by decide) ?_
      refine jr_goto 164 CC (jd ddL_isArmed 80 rfl) (by decide) ?_
      refine jr_istore [(8, .int 1), (7, .int (nI (ka % 34))), (6, .int (nI (kb % 18))), (5, .int 0), (4, .int (nI m8)), (0, .ref h0), (1, .ref bg), (2, .int (nI ka)), (3, .int (nI kb))] CC (jd ddL_isArmed 82 rfl) (by decide) rfl ?_
      refine (Classical.em ((kb % 18) ≤ 16 ∧ (ka % 34) ≤ 32)).elim (fun hrg => ?_) (fun hrg => ?_)
      · have hM3 : (upd (armd M) 3 0) 3 = 0 := pk_us
        refine jr_aload_n CC (jd ddL_isArmed 83 rfl) 5 rfl ?_
        refine jr_iconst (v := 4) CC (jd ddL_isArmed 84 rfl) (by decide) ?_
        refine jr_iload CC (jd ddL_isArmed 85 rfl) 2 rfl ?_
        refine jr_iload CC (jd ddL_isArmed 86 rfl) 1 rfl ?_
        refine jr_iconst (v := 0) CC (jd ddL_isArmed 87 rfl) (by decide) ?_
        refine jr_iconst (v := 0) CC (jd ddL_isArmed 88 rfl) (by decide) ?_
        refine jr_iconst (v := 1) CC (jd ddL_isArmed 89 rfl) (by decide) ?_
        refine jr_callW (rest := []) [.ref h0, .int 4, .int (nI (kb % 18)), .int (nI (ka % 34)), .int 0, .int 0, .int 1] CC (jd ddL_isArmed 90 rfl) (jy_L_182 CC) (k_L_sets4 l t hfl h0 x1 x2 x3 x4 x5 x6 fi (upd (armd M) 3 0) ca none (nI (kb % 18)) (nI (ka % 34))) [0, 1] rfl (by decide) rfl rfl (by decide) (Nat.le_of_ble_eq_true rfl) (by rintro v u h; rcases h with ⟨z9_0, rfl, rfl⟩ | ⟨z9_0, rfl, rfl⟩ | ⟨z9_0, rfl, rfl⟩ <;> exact (show ([h0, x2] : List Nat) = [h0, x2] from rfl)) (fun _ _ h => h.elim) (fun _ _ h => h.elim) (fun v u h => ?_)
        rcases h with ⟨c8, rfl, rfl⟩ | ⟨c9, rfl, rfl⟩ | ⟨c10, rfl, rfl⟩
        · exact absurd ((eLen_ok hrg).symm.trans c8) (by rw [if_pos hM3]; decide)
        · exact absurd ((eLen_ok hrg).symm.trans c9) (by rw [if_pos hM3]; decide)
        · refine jr_norm [(h0, .inr (9, [.ref x1, .ref x2, .ref x3, .ref x4, .ref x5, .ref x6, .int fi])), (x2, .inr (5, jmem (upd (upd (upd (armd M) 3 0) 4 (nI (kb % 18))) 5 (nI (ka % 34))) ca none)), (bg, .inl (t 0, 7, .inl g))] [.int 0] 178 3 18 rfl rfl rfl rfl rfl ?_
          refine jr_istore [(9, .int 0), (8, .int 1), (7, .int (nI (ka % 34))), (6, .int (nI (kb % 18))), (5, .int 0), (4, .int (nI m8)), (0, .ref h0), (1, .ref bg), (2, .int (nI ka)), (3, .int (nI kb))] CC (jd ddL_isArmed 91 rfl) (by decide) rfl ?_
          refine jr_iload CC (jd ddL_isArmed 92 rfl) 3 rfl ?_
          refine jr_bipush (v := 17) CC (jd ddL_isArmed 93 rfl) (by decide) ?_
          refine jr_icmp_ge 198 CC (jd ddL_isArmed 94 rfl) (by decide) (fun h => absurd h (nI_ge (a := (kb % 18)) (b := 17) (by omega) (by decide))) (fun _ => ?_)
          refine jr_iload CC (jd ddL_isArmed 95 rfl) 2 rfl ?_
          refine jr_bipush (v := 33) CC (jd ddL_isArmed 96 rfl) (by decide) ?_
          refine jr_icmp_ge 198 CC (jd ddL_isArmed 97 rfl) (by decide) (fun h => absurd h (nI_ge (a := (ka % 34)) (b := 33) (by omega) (by decide))) (fun _ => ?_)
          refine jr_iconst (v := 1) CC (jd ddL_isArmed 98 rfl) (by decide) ?_
          refine jr_goto 199 CC (jd ddL_isArmed 99 rfl) (by decide) ?_
          refine jr_istore [(10, .int 1), (9, .int 0), (8, .int 1), (7, .int (nI (ka % 34))), (6, .int (nI (kb % 18))), (5, .int 0), (4, .int (nI m8)), (0, .ref h0), (1, .ref bg), (2, .int (nI ka)), (3, .int (nI kb))] CC (jd ddL_isArmed 101 rfl) (by decide) rfl ?_
          refine jr_aload_n CC (jd ddL_isArmed 102 rfl) 8 rfl ?_
          refine jr_iconst (v := 2) CC (jd ddL_isArmed 103 rfl) (by decide) ?_
          refine jr_iload CC (jd ddL_isArmed 104 rfl) 0 rfl ?_
          refine jr_if_eq 213 CC (jd ddL_isArmed 105 rfl) (by decide) (fun h => absurd h (by decide)) (fun _ => ?_)
          refine jr_iload CC (jd ddL_isArmed 106 rfl) 4 rfl ?_
          refine jr_goto 216 CC (jd ddL_isArmed 107 rfl) (by decide) ?_
          refine jr_iastN CC (jd ddL_isArmed 111 rfl) 2 2 rfl (by decide) (by decide) (by decide) ?_
          refine jr_aload_n CC (jd ddL_isArmed 112 rfl) 8 rfl ?_
          refine jr_iconst (v := 3) CC (jd ddL_isArmed 113 rfl) (by decide) ?_
          refine jr_iload CC (jd ddL_isArmed 114 rfl) 0 rfl ?_
          refine jr_if_eq 229 CC (jd ddL_isArmed 115 rfl) (by decide) (fun h => absurd h (by decide)) (fun _ => ?_)
          refine jr_iload CC (jd ddL_isArmed 116 rfl) 3 rfl ?_
          refine jr_goto 232 CC (jd ddL_isArmed 117 rfl) (by decide) ?_
          refine jr_iastN CC (jd ddL_isArmed 121 rfl) 2 3 rfl (by decide) (by decide) (by decide) ?_
          refine jr_iload CC (jd ddL_isArmed 122 rfl) 2 rfl ?_
          refine jr_if_eq 272 CC (jd ddL_isArmed 123 rfl) (by decide) (fun h => absurd h (by decide)) (fun _ => ?_)
          refine jr_iload CC (jd ddL_isArmed 124 rfl) 1 rfl ?_
          refine jr_iload CC (jd ddL_isArmed 125 rfl) 0 rfl ?_
          refine jr_if_eq 249 CC (jd ddL_isArmed 126 rfl) (by decide) (fun h => absurd h (by decide)) (fun _ => ?_)
          refine jr_iconst (v := 0) CC (jd ddL_isArmed 127 rfl) (by decide) ?_
          refine jr_goto 251 CC (jd ddL_isArmed 128 rfl) (by decide) ?_
          refine jr_icmp_ne 272 CC (jd ddL_isArmed 130 rfl) (by decide) (fun h => absurd h (by decide)) (fun _ => ?_)
          refine jr_aload_n CC (jd ddL_isArmed 131 rfl) 7 rfl ?_
          refine jr_callV (q0 := 0) (rest := []) [] CC (jd ddL_isArmed 132 rfl) (jy_L_188 CC) (k_X10_arm l t hfl h0 x1 x2 x3 x4 x5 x6 fi (upd (upd (upd (armd M) 3 0) 4 (nI (kb % 18))) 5 (nI (ka % 34))) ca none) [0, 1] rfl (by decide) rfl rfl rfl rfl (by decide) (Nat.le_of_ble_eq_true rfl) (by rintro v u h; rcases h with ⟨rfl, rfl⟩ <;> exact (show ([h0, x2] : List Nat) = [h0, x2] from rfl)) (fun _ _ h => h.elim) (fun _ _ h => h.elim) (fun v u h => ?_)
          rcases h with ⟨rfl, rfl⟩
          refine jr_norm [(h0, .inr (9, [.ref x1, .ref x2, .ref x3, .ref x4, .ref x5, .ref x6, .int fi])), (x2, .inr (5, jmem (upd (upd (upd (upd (upd (upd (upd (upd (armd M) 3 0) 4 (nI (kb % 18))) 5 (nI (ka % 34))) 3 1) 1 0) 7 0) 9 0) 10 (-1)) ca none)), (bg, .inl (t 0, 7, .inl (upd (upd g 2 (nI (kb % 18))) 3 (nI (ka % 34)))))] [.int ((upd (upd (upd (armd M) 3 0) 4 (nI (kb % 18))) 5 (nI (ka % 34))) 1)] 258 3 18 rfl rfl rfl rfl rfl ?_
          refine jr_st [.int 0] (jst1 ((pk_un (by decide)).trans ((pk_un (by decide)).trans ((pk_un (by decide)).trans (armd_v _).1)))) ?_
          refine jr_ws [(h0, .inr (9, [.ref x1, .ref x2, .ref x3, .ref x4, .ref x5, .ref x6, .int fi])), (x2, .inr (5, jmem (armd (upd (upd (upd (armd M) 3 0) 4 (nI (kb % 18))) 5 (nI (ka % 34)))) ca none)), (bg, .inl (t 0, 7, .inl (upd (upd g 2 (nI (kb % 18))) 3 (nI (ka % 34)))))] rfl ?_
          refine jr_if_ne 272 CC (jd ddL_isArmed 133 rfl) (by decide) (fun h => absurd h (by decide)) (fun _ => ?_)
          refine jr_aload_n CC (jd ddL_isArmed 134 rfl) 7 rfl ?_
          refine jr_callV (q0 := 0) (rest := []) [] CC (jd ddL_isArmed 135 rfl) (jy_L_159 CC) (k_X10_isArmed l t hfl h0 x1 x2 x3 x4 x5 x6 fi (armd (upd (upd (upd (armd M) 3 0) 4 (nI (kb % 18))) 5 (nI (ka % 34)))) ca none (Or.inr (armd_v _).2.1)) [0, 1] rfl (by decide) rfl rfl rfl rfl (by decide) (Nat.le_of_ble_eq_true rfl) (by rintro v u h; rcases h with ⟨rfl, rfl⟩ <;> exact (show ([h0, x2] : List Nat) = [h0, x2] from rfl)) (fun _ _ h => h.elim) (fun _ _ h => h.elim) (fun v u h => ?_)
          rcases h with ⟨rfl, rfl⟩
          refine jr_norm [(h0, .inr (9, [.ref x1, .ref x2, .ref x3, .ref x4, .ref x5, .ref x6, .int fi])), (x2, .inr (5, jmem (armd (upd (upd (upd (armd M) 3 0) 4 (nI (kb % 18))) 5 (nI (ka % 34)))) ca none)), (bg, .inl (t 0, 7, .inl (upd (upd g 2 (nI (kb % 18))) 3 (nI (ka % 34)))))] [.int ((armd (upd (upd (upd (armd M) 3 0) 4 (nI (kb % 18))) 5 (nI (ka % 34)))) 3)] 265 3 18 rfl rfl rfl rfl rfl ?_
          refine jr_st [.int 1] (jst1 ((armd_v _).2.1)) ?_
          refine jr_if_eq 272 CC (jd ddL_isArmed 136 rfl) (by decide) (fun h => absurd h (by decide)) (fun _ => ?_)
          refine jr_iconst (v := 1) CC (jd ddL_isArmed 137 rfl) (by decide) ?_
          refine jr_goto 273 CC (jd ddL_isArmed 138 rfl) (by decide) ?_
          exact jr_zret rfl CC MM (jd ddL_isArmed 140 rfl) rfl (by decide) (by decide) (Or.inr ⟨(armd (upd (upd (upd (armd M) 3 0) 4 (nI (kb % 18))) 5 (nI (ka % 34)))), (upd (upd g 2 (nI (kb % 18))) 3 (nI (ka % 34))), (kb % 18), (ka % 34), 0, ⟨pNum_arm hNum (P9 := (kb % 18)) (q9 := (ka % 34)) (by rw [pk_un (by decide), pk_us]) hrg.1 (by rw [pk_us]) hrg.2 (by rw [pk_un (by decide), pk_un (by decide), pk_un (by decide)]; exact (armd_v _).2.2.2.2.1), Or.inr rfl, by rw [pk_un (by decide), pk_us], by rw [pk_us], fun k a9 b9 => by rw [pk_un b9, pk_un a9]⟩, rfl, rfl⟩)
      · have hM3 : (upd (armd M) 3 0) 3 = 0 := pk_us
        refine jr_aload_n CC (jd ddL_isArmed 83 rfl) 5 rfl ?_
        refine jr_iconst (v := 4) CC (jd ddL_isArmed 84 rfl) (by decide) ?_
        refine jr_iload CC (jd ddL_isArmed 85 rfl) 2 rfl ?_
        refine jr_iload CC (jd ddL_isArmed 86 rfl) 1 rfl ?_
        refine jr_iconst (v := 0) CC (jd ddL_isArmed 87 rfl) (by decide) ?_
        refine jr_iconst (v := 0) CC (jd ddL_isArmed 88 rfl) (by decide) ?_
        refine jr_iconst (v := 1) CC (jd ddL_isArmed 89 rfl) (by decide) ?_
        refine jr_callW (rest := []) [.ref h0, .int 4, .int (nI (kb % 18)), .int (nI (ka % 34)), .int 0, .int 0, .int 1] CC (jd ddL_isArmed 90 rfl) (jy_L_182 CC) (k_L_sets4 l t hfl h0 x1 x2 x3 x4 x5 x6 fi (upd (armd M) 3 0) ca none (nI (kb % 18)) (nI (ka % 34))) [0, 1] rfl (by decide) rfl rfl (by decide) (Nat.le_of_ble_eq_true rfl) (by rintro v u h; rcases h with ⟨z9_0, rfl, rfl⟩ | ⟨z9_0, rfl, rfl⟩ | ⟨z9_0, rfl, rfl⟩ <;> exact (show ([h0, x2] : List Nat) = [h0, x2] from rfl)) (fun _ _ h => h.elim) (fun _ _ h => h.elim) (fun v u h => ?_)
        rcases h with ⟨c18, rfl, rfl⟩ | ⟨c19, rfl, rfl⟩ | ⟨c20, rfl, rfl⟩
        · refine jr_norm [(h0, .inr (9, [.ref x1, .ref x2, .ref x3, .ref x4, .ref x5, .ref x6, .int fi])), (x2, .inr (5, jmem (upd (armd M) 3 0) ca none)), (bg, .inl (t 0, 7, .inl g))] [.int (-20)] 178 3 18 rfl rfl rfl rfl rfl ?_
          refine jr_istore [(9, .int (-20)), (8, .int 1), (7, .int (nI (ka % 34))), (6, .int (nI (kb % 18))), (5, .int 0), (4, .int (nI m8)), (0, .ref h0), (1, .ref bg), (2, .int (nI ka)), (3, .int (nI kb))] CC (jd ddL_isArmed 91 rfl) (by decide) rfl ?_
          refine jr_iload CC (jd ddL_isArmed 92 rfl) 3 rfl ?_
          refine jr_bipush (v := 17) CC (jd ddL_isArmed 93 rfl) (by decide) ?_
          refine jr_icmp_ge 198 CC (jd ddL_isArmed 94 rfl) (by decide) (fun c21 => ?_) (fun c21 => ?_)
          · have n21 := jle_of (a := 17) (b := (kb % 18)) c21 (by omega) (by omega)
            refine jr_iconst (v := 0) CC (jd ddL_isArmed 100 rfl) (by decide) ?_
            refine jr_istore [(10, .int 0), (9, .int (-20)), (8, .int 1), (7, .int (nI (ka % 34))), (6, .int (nI (kb % 18))), (5, .int 0), (4, .int (nI m8)), (0, .ref h0), (1, .ref bg), (2, .int (nI ka)), (3, .int (nI kb))] CC (jd ddL_isArmed 101 rfl) (by decide) rfl ?_
            refine jr_aload_n CC (jd ddL_isArmed 102 rfl) 8 rfl ?_
            refine jr_iconst (v := 2) CC (jd ddL_isArmed 103 rfl) (by decide) ?_
            refine jr_iload CC (jd ddL_isArmed 104 rfl) 0 rfl ?_
            refine jr_if_eq 213 CC (jd ddL_isArmed 105 rfl) (by decide) (fun _ => ?_) (fun h => absurd h (by decide))
            refine jr_pc (pc' := 213) rfl ?_
            refine jr_aload_n CC (jd ddL_isArmed 108 rfl) 8 rfl ?_
            refine jr_iconst (v := 2) CC (jd ddL_isArmed 109 rfl) (by decide) ?_
            refine jr_ialdN CC (jd ddL_isArmed 110 rfl) 2 2 rfl (by decide) (by decide) (by decide) ?_
            refine jr_iastN CC (jd ddL_isArmed 111 rfl) 2 2 rfl (by decide) (by decide) (by decide) ?_
            refine jr_aload_n CC (jd ddL_isArmed 112 rfl) 8 rfl ?_
            refine jr_iconst (v := 3) CC (jd ddL_isArmed 113 rfl) (by decide) ?_
            refine jr_iload CC (jd ddL_isArmed 114 rfl) 0 rfl ?_
            refine jr_if_eq 229 CC (jd ddL_isArmed 115 rfl) (by decide) (fun _ => ?_) (fun h => absurd h (by decide))
            refine jr_aload_n CC (jd ddL_isArmed 118 rfl) 8 rfl ?_
            refine jr_iconst (v := 3) CC (jd ddL_isArmed 119 rfl) (by decide) ?_
            refine jr_pc (pc' := 231) rfl ?_
            refine jr_ialdN CC (jd ddL_isArmed 120 rfl) 2 3 rfl (by decide) (by decide) (by decide) ?_
            refine jr_iastN CC (jd ddL_isArmed 121 rfl) 2 3 rfl (by decide) (by decide) (by decide) ?_
            refine jr_iload CC (jd ddL_isArmed 122 rfl) 2 rfl ?_
            refine jr_if_eq 272 CC (jd ddL_isArmed 123 rfl) (by decide) (fun h => absurd h (by decide)) (fun _ => ?_)
            refine jr_iload CC (jd ddL_isArmed 124 rfl) 1 rfl ?_
            refine jr_iload CC (jd ddL_isArmed 125 rfl) 0 rfl ?_
            refine jr_if_eq 249 CC (jd ddL_isArmed 126 rfl) (by decide) (fun _ => ?_) (fun h => absurd h (by decide))
            refine jr_bipush (v := (-20)) CC (jd ddL_isArmed 129 rfl) (by decide) ?_
            refine jr_icmp_ne 272 CC (jd ddL_isArmed 130 rfl) (by decide) (fun h => absurd h (by decide)) (fun _ => ?_)
            refine jr_aload_n CC (jd ddL_isArmed 131 rfl) 7 rfl ?_
            refine jr_pc (pc' := 255) rfl ?_
            refine jr_callV (q0 := 0) (rest := []) [] CC (jd ddL_isArmed 132 rfl) (jy_L_188 CC) (k_X10_arm l t hfl h0 x1 x2 x3 x4 x5 x6 fi (upd (armd M) 3 0) ca none) [0, 1] rfl (by decide) rfl rfl rfl rfl (by decide) (Nat.le_of_ble_eq_true rfl) (by rintro v u h; rcases h with ⟨rfl, rfl⟩ <;> exact (show ([h0, x2] : List Nat) = [h0, x2] from rfl)) (fun _ _ h => h.elim) (fun _ _ h => h.elim) (fun v u h => ?_)
            rcases h with ⟨rfl, rfl⟩
            refine jr_norm [(h0, .inr (9, [.ref x1, .ref x2, .ref x3, .ref x4, .ref x5, .ref x6, .int fi])), (x2, .inr (5, jmem (upd (upd (upd (upd (upd (upd (armd M) 3 0) 3 1) 1 0) 7 0) 9 0) 10 (-1)) ca none)), (bg, .inl (t 0, 7, .inl (upd (upd g 2 (g 2)) 3 ((upd g 2 (g 2)) 3))))] [.int ((upd (armd M) 3 0) 1)] 258 3 18 rfl rfl rfl rfl rfl ?_
            refine jr_st [.int 0] (jst1 ((pk_un (by decide)).trans (armd_v _).1)) ?_
            refine jr_ws [(h0, .inr (9, [.ref x1, .ref x2, .ref x3, .ref x4, .ref x5, .ref x6, .int fi])), (x2, .inr (5, jmem (armd (upd (armd M) 3 0)) ca none)), (bg, .inl (t 0, 7, .inl (upd (upd g 2 (g 2)) 3 ((upd g 2 (g 2)) 3))))] rfl ?_
            refine jr_if_ne 272 CC (jd ddL_isArmed 133 rfl) (by decide) (fun h => absurd h (by decide)) (fun _ => ?_)
            refine jr_aload_n CC (jd ddL_isArmed 134 rfl) 7 rfl ?_
            refine jr_callV (q0 := 0) (rest := []) [] CC (jd ddL_isArmed 135 rfl) (jy_L_159 CC) (k_X10_isArmed l t hfl h0 x1 x2 x3 x4 x5 x6 fi (armd (upd (armd M) 3 0)) ca none (Or.inr (armd_v _).2.1)) [0, 1] rfl (by decide) rfl rfl rfl rfl (by decide) (Nat.le_of_ble_eq_true rfl) (by rintro v u h; rcases h with ⟨rfl, rfl⟩ <;> exact (show ([h0, x2] : List Nat) = [h0, x2] from rfl)) (fun _ _ h => h.elim) (fun _ _ h => h.elim) (fun v u h => ?_)
            rcases h with ⟨rfl, rfl⟩
            refine jr_norm [(h0, .inr (9, [.ref x1, .ref x2, .ref x3, .ref x4, .ref x5, .ref x6, .int fi])), (x2, .inr (5, jmem (armd (upd (armd M) 3 0)) ca none)), (bg, .inl (t 0, 7, .inl (upd (upd g 2 (g 2)) 3 ((upd g 2 (g 2)) 3))))] [.int ((armd (upd (armd M) 3 0)) 3)] 265 3 18 rfl rfl rfl rfl rfl ?_
            refine jr_st [.int 1] (jst1 ((armd_v _).2.1)) ?_
            refine jr_if_eq 272 CC (jd ddL_isArmed 136 rfl) (by decide) (fun h => absurd h (by decide)) (fun _ => ?_)
            refine jr_iconst (v := 1) CC (jd ddL_isArmed 137 rfl) (by decide) ?_
            refine jr_goto 273 CC (jd ddL_isArmed 138 rfl) (by decide) ?_
            exact jr_zret rfl CC MM (jd ddL_isArmed 140 rfl) rfl (by decide) (by decide) (Or.inr ⟨(armd (upd (armd M) 3 0)), (upd (upd g 2 (g 2)) 3 ((upd g 2 (g 2)) 3)), P, q, 0, ⟨pNum_arm hNum (P9 := P) (q9 := q) (by rw [pk_un (by decide)]; exact ((armd_v _).2.2.1).trans hM4) hP (by rw [pk_un (by decide)]; exact ((armd_v _).2.2.2.1).trans hM5) hq (by rw [pk_un (by decide)]; exact (armd_v _).2.2.2.2.1), Or.inr rfl, by rw [pk_un (by decide), pk_us]; exact hg2, by rw [pk_us, pk_un (by decide)]; exact hg3, fun k a9 b9 => by rw [pk_un b9, pk_un a9]⟩, rfl, rfl⟩)
          · have n21 := jle_not (a := 17) (b := (kb % 18)) c21 (by omega) (by omega)
            refine jr_iload CC (jd ddL_isArmed 95 rfl) 2 rfl ?_
            refine jr_bipush (v := 33) CC (jd ddL_isArmed 96 rfl) (by decide) ?_
            refine jr_icmp_ge 198 CC (jd ddL_isArmed 97 rfl) (by decide) (fun _ => ?_) (fun h => absurd (nI_le (a := 33) (b := (ka % 34)) (by omega) (by omega)) h)
            refine jr_iconst (v := 0) CC (jd ddL_isArmed 100 rfl) (by decide) ?_
            refine jr_istore [(10, .int 0), (9, .int (-20)), (8, .int 1), (7, .int (nI (ka % 34))), (6, .int (nI (kb % 18))), (5, .int 0), (4, .int (nI m8)), (0, .ref h0), (1, .ref bg), (2, .int (nI ka)), (3, .int (nI kb))] CC (jd ddL_isArmed 101 rfl) (by decide) rfl ?_
            refine jr_aload_n CC (jd ddL_isArmed 102 rfl) 8 rfl ?_
            refine jr_pc (pc' := 202) rfl ?_
            refine jr_iconst (v := 2) CC (jd ddL_isArmed 103 rfl) (by decide) ?_
            refine jr_iload CC (jd ddL_isArmed 104 rfl) 0 rfl ?_
            refine jr_if_eq 213 CC (jd ddL_isArmed 105 rfl) (by decide) (fun _ => ?_) (fun h => absurd h (by decide))
            refine jr_aload_n CC (jd ddL_isArmed 108 rfl) 8 rfl ?_
            refine jr_iconst (v := 2) CC (jd ddL_isArmed 109 rfl) (by decide) ?_
            refine jr_ialdN CC (jd ddL_isArmed 110 rfl) 2 2 rfl (by decide) (by decide) (by decide) ?_
            refine jr_iastN CC (jd ddL_isArmed 111 rfl) 2 2 rfl (by decide) (by decide) (by decide) ?_
            refine jr_aload_n CC (jd ddL_isArmed 112 rfl) 8 rfl ?_
            refine jr_iconst (v := 3) CC (jd ddL_isArmed 113 rfl) (by decide) ?_
            refine jr_iload CC (jd ddL_isArmed 114 rfl) 0 rfl ?_
            refine jr_pc (pc' := 221) rfl ?_
            refine jr_if_eq 229 CC (jd ddL_isArmed 115 rfl) (by decide) (fun _ => ?_) (fun h => absurd h (by decide))
            refine jr_aload_n CC (jd ddL_isArmed 118 rfl) 8 rfl ?_
            refine jr_iconst (v := 3) CC (jd ddL_isArmed 119 rfl) (by decide) ?_
            refine jr_ialdN CC (jd ddL_isArmed 120 rfl) 2 3 rfl (by decide) (by decide) (by decide) ?_
            refine jr_iastN CC (jd ddL_isArmed 121 rfl) 2 3 rfl (by decide) (by decide) (by decide) ?_
            refine jr_iload CC (jd ddL_isArmed 122 rfl) 2 rfl ?_
            refine jr_if_eq 272 CC (jd ddL_isArmed 123 rfl) (by decide) (fun h => absurd h (by decide)) (fun _ => ?_)
            refine jr_iload CC (jd ddL_isArmed 124 rfl) 1 rfl ?_
            refine jr_iload CC (jd ddL_isArmed 125 rfl) 0 rfl ?_
            refine jr_if_eq 249 CC (jd ddL_isArmed 126 rfl) (by decide) (fun _ => ?_) (fun h => absurd h (by decide))
            refine jr_pc (pc' := 249) rfl ?_
            refine jr_bipush (v := (-20)) CC (jd ddL_isArmed 129 rfl) (by decide) ?_
            refine jr_icmp_ne 272 CC (jd ddL_isArmed 130 rfl) (by decide) (fun h => absurd h (by decide)) (fun _ => ?_)
            refine jr_aload_n CC (jd ddL_isArmed 131 rfl) 7 rfl ?_
            refine jr_callV (q0 := 0) (rest := []) [] CC (jd ddL_isArmed 132 rfl) (jy_L_188 CC) (k_X10_arm l t hfl h0 x1 x2 x3 x4 x5 x6 fi (upd (armd M) 3 0) ca none) [0, 1] rfl (by decide) rfl rfl rfl rfl (by decide) (Nat.le_of_ble_eq_true rfl) (by rintro v u h; rcases h with ⟨rfl, rfl⟩ <;> exact (show ([h0, x2] : List Nat) = [h0, x2] from rfl)) (fun _ _ h => h.elim) (fun _ _ h => h.elim) (fun v u h => ?_)
            rcases h with ⟨rfl, rfl⟩
            refine jr_norm [(h0, .inr (9, [.ref x1, .ref x2, .ref x3, .ref x4, .ref x5, .ref x6, .int fi])), (x2, .inr (5, jmem (upd (upd (upd (upd (upd (upd (armd M) 3 0) 3 1) 1 0) 7 0) 9 0) 10 (-1)) ca none)), (bg, .inl (t 0, 7, .inl (upd (upd g 2 (g 2)) 3 ((upd g 2 (g 2)) 3))))] [.int ((upd (armd M) 3 0) 1)] 258 3 18 rfl rfl rfl rfl rfl ?_
            refine jr_st [.int 0] (jst1 ((pk_un (by decide)).trans (armd_v _).1)) ?_
            refine jr_ws [(h0, .inr (9, [.ref x1, .ref x2, .ref x3, .ref x4, .ref x5, .ref x6, .int fi])), (x2, .inr (5, jmem (armd (upd (armd M) 3 0)) ca none)), (bg, .inl (t 0, 7, .inl (upd (upd g 2 (g 2)) 3 ((upd g 2 (g 2)) 3))))] rfl ?_
            refine jr_if_ne 272 CC (jd ddL_isArmed 133 rfl) (by decide) (fun h => absurd h (by decide)) (fun _ => ?_)
            refine jr_aload_n CC (jd ddL_isArmed 134 rfl) 7 rfl ?_
            refine jr_callV (q0 := 0) (rest := []) [] CC (jd ddL_isArmed 135 rfl) (jy_L_159 CC) (k_X10_isArmed l t hfl h0 x1 x2 x3 x4 x5 x6 fi (armd (upd (armd M) 3 0)) ca none (Or.inr (armd_v _).2.1)) [0, 1] rfl (by decide) rfl rfl rfl rfl (by decide) (Nat.le_of_ble_eq_true rfl) (by rintro v u h; rcases h with ⟨rfl, rfl⟩ <;> exact (show ([h0, x2] : List Nat) = [h0, x2] from rfl)) (fun _ _ h => h.elim) (fun _ _ h => h.elim) (fun v u h => ?_)
            rcases h with ⟨rfl, rfl⟩
            refine jr_norm [(h0, .inr (9, [.ref x1, .ref x2, .ref x3, .ref x4, .ref x5, .ref x6, .int fi])), (x2, .inr (5, jmem (armd (upd (armd M) 3 0)) ca none)), (bg, .inl (t 0, 7, .inl (upd (upd g 2 (g 2)) 3 ((upd g 2 (g 2)) 3))))] [.int ((armd (upd (armd M) 3 0)) 3)] 265 3 18 rfl rfl rfl rfl rfl ?_
            refine jr_st [.int 1] (jst1 ((armd_v _).2.1)) ?_
            refine jr_if_eq 272 CC (jd ddL_isArmed 136 rfl) (by decide) (fun h => absurd h (by decide)) (fun _ => ?_)
            refine jr_iconst (v := 1) CC (jd ddL_isArmed 137 rfl) (by decide) ?_
            refine jr_goto 273 CC (jd ddL_isArmed 138 rfl) (by decide) ?_
            exact jr_zret rfl CC MM (jd ddL_isArmed 140 rfl) rfl (by decide) (by decide) (Or.inr ⟨(armd (upd (armd M) 3 0)), (upd (upd g 2 (g 2)) 3 ((upd g 2 (g 2)) 3)), P, q, 0, ⟨pNum_arm hNum (P9 := P) (q9 := q) (by rw [pk_un (by decide)]; exact ((armd_v _).2.2.1).trans hM4) hP (by rw [pk_un (by decide)]; exact ((armd_v _).2.2.2.1).trans hM5) hq (by rw [pk_un (by decide)]; exact (armd_v _).2.2.2.2.1), Or.inr rfl, by rw [pk_un (by decide), pk_us]; exact hg2, by rw [pk_us, pk_un (by decide)]; exact hg3, fun k a9 b9 => by rw [pk_un b9, pk_un a9]⟩, rfl, rfl⟩)
        · exact absurd ((eLen_no hrg (by omega) (by omega)).symm.trans c19) (by decide)
        · exact absurd ((eLen_no hrg (by omega) (by omega)).symm.trans c20) (by decide)
    · have n1 := jeq_of (a := (ka % 4)) (b := 0) c1 (by omega) (by omega)
      refine jr_aload_n CC (jd ddL_isArmed 10 rfl) 2 rfl ?_
      refine jr_callV (q0 := 0) (rest := []) [] CC (jd ddL_isArmed 11 rfl) (jy_L_185 CC) (k_X10_disarm l t hfl h0 x1 x2 x3 x4 x5 x6 fi M ca cg (har.imp id And.left)) [0, 1] rfl (by decide) rfl rfl rfl rfl (by decide) (Nat.le_of_ble_eq_true rfl) (by rintro v u h; rcases h with ⟨rfl, rfl⟩ <;> exact (show ([h0, x2] : List Nat) = [h0, x2] from rfl)) (fun _ _ h => h.elim) (fun _ _ h => h.elim) (fun v u h => ?_)
      rcases h with ⟨rfl, rfl⟩
      refine jr_norm [(h0, .inr (9, [.ref x1, .ref x2, .ref x3, .ref x4, .ref x5, .ref x6, .int fi])), (x2, .inr (5, jmem (upd M 3 0) ca none)), (bg, .inl (t 0, 7, .inl g))] [.int (M 3)] 22 0 0 rfl rfl rfl rfl rfl ?_
      refine jr_st [.int 0] (jst1 (h30)) ?_
      refine jr_iload CC (jd ddL_isArmed 12 rfl) 0 rfl ?_
      refine jr_icmp_ne 54 CC (jd ddL_isArmed 13 rfl) (by decide) (fun h => absurd h (by decide)) (fun _ => ?_)
      refine jr_aload_n CC (jd ddL_isArmed 14 rfl) 2 rfl ?_
      refine jr_callV (q0 := 0) (rest := []) [] CC (jd ddL_isArmed 15 rfl) (jy_L_159 CC) (k_X10_isArmed l t hfl h0 x1 x2 x3 x4 x5 x6 fi (upd M 3 0) ca none (Or.inl pk_us)) [0, 1] rfl (by decide) rfl rfl rfl rfl (by decide) (Nat.le_of_ble_eq_true rfl) (by rintro v u h; rcases h with ⟨rfl, rfl⟩ <;> exact (show ([h0, x2] : List Nat) = [h0, x2] from rfl)) (fun _ _ h => h.elim) (fun _ _ h => h.elim) (fun v u h => ?_)
      rcases h with ⟨rfl, rfl⟩
      refine jr_norm [(h0, .inr (9, [.ref x1, .ref x2, .ref x3, .ref x4, .ref x5, .ref x6, .int fi])), (x2, .inr (5, jmem (upd M 3 0) ca none)), (bg, .inl (t 0, 7, .inl g))] [.int ((upd M 3 0) 3)] 31 0 0 rfl rfl rfl rfl rfl ?_
      refine jr_st [.int 0] (jst1 (pk_us)) ?_
      refine jr_if_ne 54 CC (jd ddL_isArmed 16 rfl) (by decide) (fun h => absurd h (by decide)) (fun _ => ?_)
      refine jr_aload_n CC (jd ddL_isArmed 17 rfl) 2 rfl ?_
      refine jr_callV (q0 := 0) (rest := []) [] CC (jd ddL_isArmed 18 rfl) (jy_L_155 CC) (k_X10_isCatching_u l t hfl h0 x1 x2 x3 x4 x5 x6 fi (upd M 3 0) ca none) [0, 1] rfl (by decide) rfl rfl rfl rfl (by decide) (Nat.le_of_ble_eq_true rfl) (by rintro v u h; rcases h with ⟨rfl, rfl⟩ <;> exact (show ([h0, x2] : List Nat) = [h0, x2] from rfl)) (fun _ _ h => h.elim) (fun _ _ h => h.elim) (fun v u h => ?_)
      rcases h with ⟨rfl, rfl⟩
      refine jr_norm [(h0, .inr (9, [.ref x1, .ref x2, .ref x3, .ref x4, .ref x5, .ref x6, .int fi])), (x2, .inr (5, jmem (upd M 3 0) ca none)), (bg, .inl (t 0, 7, .inl g))] [.int (cgB none)] 38 0 0 rfl rfl rfl rfl rfl ?_
      refine jr_st [.int 0] (jst1 (rfl)) ?_
      refine jr_if_ne 54 CC (jd ddL_isArmed 19 rfl) (by decide) (fun h => absurd h (by decide)) (fun _ => ?_)
      refine jr_aload_n CC (jd ddL_isArmed 20 rfl) 2 rfl ?_
      refine jr_callV (q0 := 0) (rest := []) [] CC (jd ddL_isArmed 21 rfl) (jy_L_146 CC) (k_X10_records l t hfl h0 x1 x2 x3 x4 x5 x6 fi (upd M 3 0) ca none) [0, 1] rfl (by decide) rfl rfl rfl rfl (by decide) (Nat.le_of_ble_eq_true rfl) (by rintro v u h; rcases h with ⟨rfl, rfl⟩ <;> exact (show ([h0, x2] : List Nat) = [h0, x2] from rfl)) (fun _ _ h => h.elim) (fun _ _ h => h.elim) (fun v u h => ?_)
      rcases h with ⟨rfl, rfl⟩
      refine jr_norm [(h0, .inr (9, [.ref x1, .ref x2, .ref x3, .ref x4, .ref x5, .ref x6, .int fi])), (x2, .inr (5, jmem (upd M 3 0) ca none)), (bg, .inl (t 0, 7, .inl g))] [.int ((upd M 3 0) 1)] 45 0 0 rfl rfl rfl rfl rfl ?_
      refine jr_st [.int (nI m8)] (jst1 ((pk_un (by decide)).trans hM1)) ?_
      refine jr_iload CC (jd ddL_isArmed 22 rfl) 1 rfl ?_
      refine jr_icmp_ne 54 CC (jd ddL_isArmed 23 rfl) (by decide) (fun h => absurd h (fun h9 => h9 rfl)) (fun _ => ?_)
      refine jr_iconst (v := 1) CC (jd ddL_isArmed 24 rfl) (by decide) ?_
      refine jr_goto 55 CC (jd ddL_isArmed 25 rfl) (by decide) ?_
      exact jr_zret rfl CC MM (jd ddL_isArmed 27 rfl) rfl (by decide) (by decide) (Or.inr ⟨(upd M 3 0), g, P, q, m8, armP_dis hNum hg2 hg3, rfl, rfl⟩)
  · refine jr_st [.int 1] (jst1 ((har.resolve_left h30).1)) ?_
    refine jr_istore [(5, .int 1), (4, .int (nI m8)), (0, .ref h0), (1, .ref bg), (2, .int (nI ka)), (3, .int (nI kb))] CC (jd ddL_isArmed 5 rfl) (by decide) rfl ?_
    refine jr_iload_n CC (jd ddL_isArmed 6 rfl) 4 rfl ?_
    refine jr_iconst (v := 4) CC (jd ddL_isArmed 7 rfl) (by decide) ?_
    refine jr_irem CC (jd ddL_isArmed 8 rfl) (by decide) ?_
    refine jr_st [.int (nI (ka % 4))] (jst1 (pk_rem (a := ka) (d := 4) (by omega) (by omega) (by omega))) ?_
    refine jr_if_ne 56 CC (jd ddL_isArmed 9 rfl) (by decide) (fun c39 => ?_) (fun c39 => ?_)
    · have n39 := jeq_not (a := (ka % 4)) (b := 0) c39 (by omega) (by omega)
      refine jr_iload_n CC (jd ddL_isArmed 28 rfl) 5 rfl ?_
      refine jr_bipush (v := 18) CC (jd ddL_isArmed 29 rfl) (by decide) ?_
      refine jr_irem CC (jd ddL_isArmed 30 rfl) (by decide) ?_
      refine jr_st [.int (nI (kb % 18))] (jst1 (pk_rem (a := kb) (d := 18) (by omega) (by omega) (by omega))) ?_
      refine jr_istore [(6, .int (nI (kb % 18))), (5, .int 1), (4, .int (nI m8)), (0, .ref h0), (1, .ref bg), (2, .int (nI ka)), (3, .int (nI kb))] CC (jd ddL_isArmed 31 rfl) (by decide) rfl ?_
      refine jr_iload_n CC (jd ddL_isArmed 32 rfl) 5 rfl ?_
      refine jr_pc (pc' := 63) rfl ?_
      refine jr_bipush (v := 34) CC (jd ddL_isArmed 33 rfl) (by decide) ?_
      refine jr_irem CC (jd ddL_isArmed 34 rfl) (by decide) ?_
      refine jr_st [.int (nI (ka % 34))] (jst1 (pk_rem (a := ka) (d := 34) (by omega) (by omega) (by omega))) ?_
      refine jr_istore [(7, .int (nI (ka % 34))), (6, .int (nI (kb % 18))), (5, .int 1), (4, .int (nI m8)), (0, .ref h0), (1, .ref bg), (2, .int (nI ka)), (3, .int (nI kb))] CC (jd ddL_isArmed 35 rfl) (by decide) rfl ?_
      refine jr_iload CC (jd ddL_isArmed 36 rfl) 2 rfl ?_
      refine jr_if_eq 115 CC (jd ddL_isArmed 37 rfl) (by decide) (fun h => absurd h (by decide)) (fun _ => ?_)
      refine (Classical.em ((kb % 18) ≤ 16 ∧ (ka % 34) ≤ 32)).elim (fun hrg => ?_) (fun hrg => ?_)
      · refine jr_aload_n CC (jd ddL_isArmed 38 rfl) 4 rfl ?_
        refine jr_iconst (v := 4) CC (jd ddL_isArmed 39 rfl) (by decide) ?_
        refine jr_iload CC (jd ddL_isArmed 40 rfl) 1 rfl ?_
        refine jr_iload CC (jd ddL_isArmed 41 rfl) 0 rfl ?_
        refine jr_iconst (v := 0) CC (jd ddL_isArmed 42 rfl) (by decide) ?_
        refine jr_pc (pc' := 80) rfl ?_
        refine jr_iconst (v := 0) CC (jd ddL_isArmed 43 rfl) (by decide) ?_
        refine jr_iconst (v := 1) CC (jd ddL_isArmed 44 rfl) (by decide) ?_
        refine jr_callW (rest := []) [.ref h0, .int 4, .int (nI (kb % 18)), .int (nI (ka % 34)), .int 0, .int 0, .int 1] CC (jd ddL_isArmed 45 rfl) (jy_L_182 CC) (k_L_sets4 l t hfl h0 x1 x2 x3 x4 x5 x6 fi M ca cg (nI (kb % 18)) (nI (ka % 34))) [0, 1] rfl (by decide) rfl rfl (by decide) (Nat.le_of_ble_eq_true rfl) (by rintro v u h; rcases h with ⟨z9_0, rfl, rfl⟩ | ⟨z9_0, rfl, rfl⟩ | ⟨z9_0, rfl, rfl⟩ <;> exact (show ([h0, x2] : List Nat) = [h0, x2] from rfl)) (fun _ _ h => h.elim) (fun _ _ h => h.elim) (fun v u h => ?_)
        rcases h with ⟨c41, rfl, rfl⟩ | ⟨c42, rfl, rfl⟩ | ⟨c43, rfl, rfl⟩
        · exact absurd ((eLen_ok hrg).symm.trans c41) (by rw [if_neg h30]; decide)
        · refine jr_norm [(h0, .inr (9, [.ref x1, .ref x2, .ref x3, .ref x4, .ref x5, .ref x6, .int fi])), (x2, .inr (5, jmem M ca cg)), (bg, .inl (t 0, 7, .inl g))] [.int (-10)] 85 3 18 rfl rfl rfl rfl rfl ?_
          refine jr_iload CC (jd ddL_isArmed 46 rfl) 1 rfl ?_
          refine jr_bipush (v := 16) CC (jd ddL_isArmed 47 rfl) (by decide) ?_
          refine jr_icmp_gt 99 CC (jd ddL_isArmed 48 rfl) (by decide) (fun h => absurd h (nI_nlt (a := 16) (b := (kb % 18)) hrg.1 (by decide))) (fun _ => ?_)
          refine jr_iload CC (jd ddL_isArmed 49 rfl) 0 rfl ?_
          refine jr_bipush (v := 32) CC (jd ddL_isArmed 50 rfl) (by decide) ?_
          refine jr_icmp_le 104 CC (jd ddL_isArmed 51 rfl) (by decide) (fun _ => ?_) (fun h => absurd (nI_le (a := (ka % 34)) (b := 32) hrg.2 (by decide)) h)
          refine jr_bipush (v := (-10)) CC (jd ddL_isArmed 54 rfl) (by decide) ?_
          refine jr_icmp_ne 113 CC (jd ddL_isArmed 55 rfl) (by decide) (fun h => absurd h (by decide)) (fun _ => ?_)
          refine jr_iconst (v := 1) CC (jd ddL_isArmed 56 rfl) (by decide) ?_
          refine jr_goto 114 CC (jd ddL_isArmed 57 rfl) (by decide) ?_
          exact jr_zret rfl CC MM (jd ddL_isArmed 59 rfl) rfl (by decide) (by decide) (Or.inl ⟨rfl, rfl⟩)
        · exact absurd ((eLen_ok hrg).symm.trans c43) (by rw [if_neg h30]; decide)
      · refine jr_aload_n CC (jd ddL_isArmed 38 rfl) 4 rfl ?_
        refine jr_iconst (v := 4) CC (jd ddL_isArmed 39 rfl) (by decide) ?_
        refine jr_iload CC (jd ddL_isArmed 40 rfl) 1 rfl ?_
        refine jr_iload CC (jd ddL_isArmed 41 rfl) 0 rfl ?_
        refine jr_iconst (v := 0) CC (jd ddL_isArmed 42 rfl) (by decide) ?_
        refine jr_pc (pc' := 80) rfl ?_
        refine jr_iconst (v := 0) CC (jd ddL_isArmed 43 rfl) (by decide) ?_
        refine jr_iconst (v := 1) CC (jd ddL_isArmed 44 rfl) (by decide) ?_
        refine jr_callW (rest := []) [.ref h0, .int 4, .int (nI (kb % 18)), .int (nI (ka % 34)), .int 0, .int 0, .int 1] CC (jd ddL_isArmed 45 rfl) (jy_L_182 CC) (k_L_sets4 l t hfl h0 x1 x2 x3 x4 x5 x6 fi M ca cg (nI (kb % 18)) (nI (ka % 34))) [0, 1] rfl (by decide) rfl rfl (by decide) (Nat.le_of_ble_eq_true rfl) (by rintro v u h; rcases h with ⟨z9_0, rfl, rfl⟩ | ⟨z9_0, rfl, rfl⟩ | ⟨z9_0, rfl, rfl⟩ <;> exact (show ([h0, x2] : List Nat) = [h0, x2] from rfl)) (fun _ _ h => h.elim) (fun _ _ h => h.elim) (fun v u h => ?_)
        rcases h with ⟨c45, rfl, rfl⟩ | ⟨c46, rfl, rfl⟩ | ⟨c47, rfl, rfl⟩
        · refine jr_norm [(h0, .inr (9, [.ref x1, .ref x2, .ref x3, .ref x4, .ref x5, .ref x6, .int fi])), (x2, .inr (5, jmem M ca cg)), (bg, .inl (t 0, 7, .inl g))] [.int (-20)] 85 3 18 rfl rfl rfl rfl rfl ?_
          refine jr_iload CC (jd ddL_isArmed 46 rfl) 1 rfl ?_
          refine jr_bipush (v := 16) CC (jd ddL_isArmed 47 rfl) (by decide) ?_
          refine jr_icmp_gt 99 CC (jd ddL_isArmed 48 rfl) (by decide) (fun c48 => ?_) (fun c48 => ?_)
          · have n48 := jlt_of (a := 16) (b := (kb % 18)) c48 (by omega) (by omega)
            refine jr_bipush (v := (-20)) CC (jd ddL_isArmed 52 rfl) (by decide) ?_
            refine jr_goto 106 CC (jd ddL_isArmed 53 rfl) (by decide) ?_
            refine jr_icmp_ne 113 CC (jd ddL_isArmed 55 rfl) (by decide) (fun h => absurd h (by decide)) (fun _ => ?_)
            refine jr_iconst (v := 1) CC (jd ddL_isArmed 56 rfl) (by decide) ?_
            refine jr_goto 114 CC (jd ddL_isArmed 57 rfl) (by decide) ?_
            exact jr_zret rfl CC MM (jd ddL_isArmed 59 rfl) rfl (by decide) (by decide) (Or.inl ⟨rfl, rfl⟩)
          · have n48 := jlt_not (a := 16) (b := (kb % 18)) c48 (by omega) (by omega)
            refine jr_iload CC (jd ddL_isArmed 49 rfl) 0 rfl ?_
            refine jr_bipush (v := 32) CC (jd ddL_isArmed 50 rfl) (by decide) ?_
            refine jr_icmp_le 104 CC (jd ddL_isArmed 51 rfl) (by decide) (fun h => absurd h (fun h9 => hrg ⟨by omega, (nI_leI (b := 32) (by omega) (by decide)).mp h9⟩)) (fun _ => ?_)
            refine jr_bipush (v := (-20)) CC (jd ddL_isArmed 52 rfl) (by decide) ?_
            refine jr_goto 106 CC (jd ddL_isArmed 53 rfl) (by decide) ?_
            refine jr_icmp_ne 113 CC (jd ddL_isArmed 55 rfl) (by decide) (fun h => absurd h (by decide)) (fun _ => ?_)
            refine jr_iconst (v := 1) CC (jd ddL_isArmed 56 rfl) (by decide) ?_
            refine jr_goto 114 CC (jd ddL_isArmed 57 rfl) (by decide) ?_
            exact jr_zret rfl CC MM (jd ddL_isArmed 59 rfl) rfl (by decide) (by decide) (Or.inl ⟨rfl, rfl⟩)
        · exact absurd ((eLen_no hrg (by omega) (by omega)).symm.trans c46) (by decide)
        · exact absurd ((eLen_no hrg (by omega) (by omega)).symm.trans c47) (by decide)
    · have n39 := jeq_of (a := (ka % 4)) (b := 0) c39 (by omega) (by omega)
      refine jr_aload_n CC (jd ddL_isArmed 10 rfl) 2 rfl ?_
      refine jr_callV (q0 := 0) (rest := []) [] CC (jd ddL_isArmed 11 rfl) (jy_L_185 CC) (k_X10_disarm l t hfl h0 x1 x2 x3 x4 x5 x6 fi M ca cg (har.imp id And.left)) [0, 1] rfl (by decide) rfl rfl rfl rfl (by decide) (Nat.le_of_ble_eq_true rfl) (by rintro v u h; rcases h with ⟨rfl, rfl⟩ <;> exact (show ([h0, x2] : List Nat) = [h0, x2] from rfl)) (fun _ _ h => h.elim) (fun _ _ h => h.elim) (fun v u h => ?_)
      rcases h with ⟨rfl, rfl⟩
      refine jr_norm [(h0, .inr (9, [.ref x1, .ref x2, .ref x3, .ref x4, .ref x5, .ref x6, .int fi])), (x2, .inr (5, jmem (upd M 3 0) ca none)), (bg, .inl (t 0, 7, .inl g))] [.int (M 3)] 22 0 0 rfl rfl rfl rfl rfl ?_
      refine jr_st [.int 1] (jst1 ((har.resolve_left h30).1)) ?_
      refine jr_iload CC (jd ddL_isArmed 12 rfl) 0 rfl ?_
      refine jr_icmp_ne 54 CC (jd ddL_isArmed 13 rfl) (by decide) (fun h => absurd h (by decide)) (fun _ => ?_)
      refine jr_aload_n CC (jd ddL_isArmed 14 rfl) 2 rfl ?_
      refine jr_callV (q0 := 0) (rest := []) [] CC (jd ddL_isArmed 15 rfl) (jy_L_159 CC) (k_X10_isArmed l t hfl h0 x1 x2 x3 x4 x5 x6 fi (upd M 3 0) ca none (Or.inl pk_us)) [0, 1] rfl (by decide) rfl rfl rfl rfl (by decide) (Nat.le_of_ble_eq_true rfl) (by rintro v u h; rcases h with ⟨rfl, rfl⟩ <;> exact (show ([h0, x2] : List Nat) = [h0, x2] from rfl)) (fun _ _ h => h.elim) (fun _ _ h => h.elim) (fun v u h => ?_)
      rcases h with ⟨rfl, rfl⟩
      refine jr_norm [(h0, .inr (9, [.ref x1, .ref x2, .ref x3, .ref x4, .ref x5, .ref x6, .int fi])), (x2, .inr (5, jmem (upd M 3 0) ca none)), (bg, .inl (t 0, 7, .inl g))] [.int ((upd M 3 0) 3)] 31 0 0 rfl rfl rfl rfl rfl ?_
      refine jr_st [.int 0] (jst1 (pk_us)) ?_
      refine jr_if_ne 54 CC (jd ddL_isArmed 16 rfl) (by decide) (fun h => absurd h (by decide)) (fun _ => ?_)
      refine jr_aload_n CC (jd ddL_isArmed 17 rfl) 2 rfl ?_
      refine jr_callV (q0 := 0) (rest := []) [] CC (jd ddL_isArmed 18 rfl) (jy_L_155 CC) (k_X10_isCatching_u l t hfl h0 x1 x2 x3 x4 x5 x6 fi (upd M 3 0) ca none) [0, 1] rfl (by decide) rfl rfl rfl rfl (by decide) (Nat.le_of_ble_eq_true rfl) (by rintro v u h; rcases h with ⟨rfl, rfl⟩ <;> exact (show ([h0, x2] : List Nat) = [h0, x2] from rfl)) (fun _ _ h => h.elim) (fun _ _ h => h.elim) (fun v u h => ?_)
      rcases h with ⟨rfl, rfl⟩
      refine jr_norm [(h0, .inr (9, [.ref x1, .ref x2, .ref x3, .ref x4, .ref x5, .ref x6, .int fi])), (x2, .inr (5, jmem (upd M 3 0) ca none)), (bg, .inl (t 0, 7, .inl g))] [.int (cgB none)] 38 0 0 rfl rfl rfl rfl rfl ?_
      refine jr_st [.int 0] (jst1 (rfl)) ?_
      refine jr_if_ne 54 CC (jd ddL_isArmed 19 rfl) (by decide) (fun h => absurd h (by decide)) (fun _ => ?_)
      refine jr_aload_n CC (jd ddL_isArmed 20 rfl) 2 rfl ?_
      refine jr_callV (q0 := 0) (rest := []) [] CC (jd ddL_isArmed 21 rfl) (jy_L_146 CC) (k_X10_records l t hfl h0 x1 x2 x3 x4 x5 x6 fi (upd M 3 0) ca none) [0, 1] rfl (by decide) rfl rfl rfl rfl (by decide) (Nat.le_of_ble_eq_true rfl) (by rintro v u h; rcases h with ⟨rfl, rfl⟩ <;> exact (show ([h0, x2] : List Nat) = [h0, x2] from rfl)) (fun _ _ h => h.elim) (fun _ _ h => h.elim) (fun v u h => ?_)
      rcases h with ⟨rfl, rfl⟩
      refine jr_norm [(h0, .inr (9, [.ref x1, .ref x2, .ref x3, .ref x4, .ref x5, .ref x6, .int fi])), (x2, .inr (5, jmem (upd M 3 0) ca none)), (bg, .inl (t 0, 7, .inl g))] [.int ((upd M 3 0) 1)] 45 0 0 rfl rfl rfl rfl rfl ?_
      refine jr_st [.int (nI m8)] (jst1 ((pk_un (by decide)).trans hM1)) ?_
      refine jr_iload CC (jd ddL_isArmed 22 rfl) 1 rfl ?_
      refine jr_icmp_ne 54 CC (jd ddL_isArmed 23 rfl) (by decide) (fun h => absurd h (fun h9 => h9 rfl)) (fun _ => ?_)
      refine jr_iconst (v := 1) CC (jd ddL_isArmed 24 rfl) (by decide) ?_
      refine jr_goto 55 CC (jd ddL_isArmed 25 rfl) (by decide) ?_
      exact jr_zret rfl CC MM (jd ddL_isArmed 27 rfl) rfl (by decide) (by decide) (Or.inr ⟨(upd M 3 0), g, P, q, m8, armP_dis hNum hg2 hg3, rfl, rfl⟩)
set_option maxHeartbeats 8000000 in
set_option maxRecDepth 100000 in
theorem k_L_isPut4 (l : Launch) (t : Nat → ClassId) (hfl : l.stackTraces = false) (h0 : Nat) (x1 : Nat) (x2 : Nat) (x3 : Nat) (x4 : Nat) (x5 : Nat) (x6 : Nat) (fi : Int32) (e0 : Nat) (e1 : Nat) (e2 : Nat) (e3 : Nat) (pn : Nat) (ht : Nat) (KA : Nat → Int32) (DA : Nat → Int32) (bg : Nat) (g : Nat → Int32) (its : Nat) (hpn : pn ≤ 16) (hht : ht ≤ pn) (hDA : ∀ z, z < pn → i6 (DA z)) (hg4 : g 4 = nI pn) (hg5 : g 5 = nI ht) : jKx l t yL_isPut (Cond.code yL_isPut cL_isPut 7 (some .boolean) :: jWS) { frames := 1, cells := 0, slots := 0, locals := 21 } [.ref h0, .ref bg, .int 4, .int (nI its)] [(h0, .inr (9, [.ref x1, .ref x2, .ref x3, .ref x4, .ref x5, .ref x6, .int fi])), (x4, .inr (2, [.ref e0, .ref e1, .ref e2, .ref e3, .int (nI pn), .int (nI ht)])), (e0, .inl (t 0, 16, .inl KA)), (e1, .inl (t 0, 16, .inl DA)), (bg, .inl (t 0, 7, .inl g))] (fun vv uu => (∃ pn9 : Nat, ∃ ht9 : Nat, ∃ KA9 : Nat → Int32, ∃ DA9 : Nat → Int32, ∃ g9 : Nat → Int32, (putP pn9 ht9 g DA9 g9) ∧ vv = some (.int 1) ∧ uu = [(h0, .inr (9, [.ref x1, .ref x2, .ref x3, .ref x4, .ref x5, .ref x6, .int fi])), (x4, .inr (2, [.ref e0, .ref e1, .ref e2, .ref e3, .int (nI pn9), .int (nI ht9)])), (e0, .inl (t 0, 16, .inl KA9)), (e1, .inl (t 0, 16, .inl DA9)), (bg, .inl (t 0, 7, .inl g9))])) (fun _ _ => False) := by
  refine jK_of hfl (by decide +kernel) (Nat.le_of_ble_eq_true rfl) ?_
  intro p e s m args below meth c D A Q CC MM
  refine jr_norm0 [(0, .ref h0), (1, .ref bg), (2, .int 4), (3, .int (nI its))] rfl ?_
  refine jr_iload_n CC (jd ddL_isPut 0 rfl) 2 rfl ?_
  refine jr_iconst (v := 4) CC (jd ddL_isPut 1 rfl) (by decide) ?_
  refine jr_icmp_ne 33 CC (jd ddL_isPut 2 rfl) (by decide) (fun h => absurd h (by decide)) (fun _ => ?_)
  refine jr_aload_n CC (jd ddL_isPut 3 rfl) 1 rfl ?_
  refine jr_iconst (v := 4) CC (jd ddL_isPut 4 rfl) (by decide) ?_
  refine jr_ialdN CC (jd ddL_isPut 5 rfl) 4 4 rfl (by decide) (by decide) (by decide) ?_
  refine jr_st [.int (nI pn)] (jst1 hg4) ?_
  refine jr_istore [(4, .int (nI pn)), (0, .ref h0), (1, .ref bg), (2, .int 4), (3, .int (nI its))] CC (jd ddL_isPut 6 rfl) (by decide) rfl ?_
  refine jr_aload_n CC (jd ddL_isPut 7 rfl) 2 rfl ?_
  refine jr_iconst (v := 4) CC (jd ddL_isPut 8 rfl) (by decide) ?_
  refine jr_iconst (v := 0) CC (jd ddL_isPut 9 rfl) (by decide) ?_
  refine jr_pc (pc' := 13) rfl ?_
  refine jr_iastN CC (jd ddL_isPut 10 rfl) 4 4 rfl (by decide) (by decide) (by decide) ?_
  refine jr_aload_n CC (jd ddL_isPut 11 rfl) 2 rfl ?_
  refine jr_iconst (v := 5) CC (jd ddL_isPut 12 rfl) (by decide) ?_
  refine jr_iconst (v := 0) CC (jd ddL_isPut 13 rfl) (by decide) ?_
  refine jr_iastN CC (jd ddL_isPut 14 rfl) 4 5 rfl (by decide) (by decide) (by decide) ?_
  refine jr_aload_n CC (jd ddL_isPut 15 rfl) 1 rfl ?_
  refine jr_callV (q0 := 0) (rest := []) [] CC (jd ddL_isPut 16 rfl) (jy_L_191 CC) (k_X10_clearTrace l t hfl h0 x1 x2 x3 x4 x5 x6 fi e0 e1 e2 e3 pn ht KA DA) [0, 1] rfl (by decide) rfl rfl rfl rfl (by decide) (Nat.le_of_ble_eq_true rfl) (by rintro v u h; rcases h with ⟨rfl, rfl⟩ <;> exact (show ([h0, x4] : List Nat) = [h0, x4] from rfl)) (fun _ _ h => h.elim) (fun _ _ h => h.elim) (fun v u h => ?_)
  rcases h with ⟨rfl, rfl⟩
  refine jr_norm [(h0, .inr (9, [.ref x1, .ref x2, .ref x3, .ref x4, .ref x5, .ref x6, .int fi])), (x4, .inr (2, [.ref e0, .ref e1, .ref e2, .ref e3, .int 0, .int 0])), (e0, .inl (t 0, 16, .inl KA)), (e1, .inl (t 0, 16, .inl DA)), (bg, .inl (t 0, 7, .inl (upd (upd g 4 0) 5 0)))] [.int (nI pn)] 22 0 0 rfl rfl rfl rfl rfl ?_
  refine jr_iload CC (jd ddL_isPut 17 rfl) 0 rfl ?_
  refine jr_icmp_ne 31 CC (jd ddL_isPut 18 rfl) (by decide) (fun h => absurd h (fun h9 => h9 rfl)) (fun _ => ?_)
  refine jr_iconst (v := 1) CC (jd ddL_isPut 19 rfl) (by decide) ?_
  refine jr_goto 32 CC (jd ddL_isPut 20 rfl) (by decide) ?_
  exact jr_zret rfl CC MM (jd ddL_isPut 22 rfl) rfl (by decide) (by decide) ⟨0, 0, KA, DA, (upd (upd g 4 0) 5 0), putP_of (Nat.zero_le _) (Nat.le_refl _) (fun z hz => absurd hz (Nat.not_lt_zero _)) rfl rfl, rfl, rfl⟩
set_option maxHeartbeats 8000000 in
set_option maxRecDepth 100000 in
theorem k_L_isPut0 (l : Launch) (t : Nat → ClassId) (hfl : l.stackTraces = false) (h0 : Nat) (x1 : Nat) (x2 : Nat) (x3 : Nat) (x4 : Nat) (x5 : Nat) (x6 : Nat) (fi : Int32) (e0 : Nat) (e1 : Nat) (e2 : Nat) (e3 : Nat) (pn : Nat) (ht : Nat) (KA : Nat → Int32) (DA : Nat → Int32) (bg : Nat) (g : Nat → Int32) (its : Nat) (hpn : pn ≤ 16) (hht : ht ≤ pn) (hDA : ∀ z, z < pn → i6 (DA z)) (hg4 : g 4 = nI pn) (hg5 : g 5 = nI ht) (hits : its < 1200) : jKx l t yL_isPut (Cond.code yL_isPut cL_isPut 7 (some .boolean) :: jWS) { frames := 10, cells := 2, slots := 12, locals := 168 } [.ref h0, .ref bg, .int 0, .int (nI its)] [(h0, .inr (9, [.ref x1, .ref x2, .ref x3, .ref x4, .ref x5, .ref x6, .int fi])), (x4, .inr (2, [.ref e0, .ref e1, .ref e2, .ref e3, .int (nI pn), .int (nI ht)])), (e0, .inl (t 0, 16, .inl KA)), (e1, .inl (t 0, 16, .inl DA)), (bg, .inl (t 0, 7, .inl g))] (fun vv uu => (∃ pn9 : Nat, ∃ ht9 : Nat, ∃ KA9 : Nat → Int32, ∃ DA9 : Nat → Int32, ∃ g9 : Nat → Int32, (putP pn9 ht9 g DA9 g9) ∧ vv = some (.int 1) ∧ uu = [(h0, .inr (9, [.ref x1, .ref x2, .ref x3, .ref x4, .ref x5, .ref x6, .int fi])), (x4, .inr (2, [.ref e0, .ref e1, .ref e2, .ref e3, .int (nI pn9), .int (nI ht9)])), (e0, .inl (t 0, 16, .inl KA9)), (e1, .inl (t 0, 16, .inl DA9)), (bg, .inl (t 0, 7, .inl g9))])) (fun _ _ => False) := by
  refine jK_of hfl (by decide +kernel) (Nat.le_of_ble_eq_true rfl) ?_
  intro p e s m args below meth c D A Q CC MM
  refine jr_norm0 [(0, .ref h0), (1, .ref bg), (2, .int 0), (3, .int (nI its))] rfl ?_
  refine jr_iload_n CC (jd ddL_isPut 0 rfl) 2 rfl ?_
  refine jr_iconst (v := 4) CC (jd ddL_isPut 1 rfl) (by decide) ?_
  refine jr_icmp_ne 33 CC (jd ddL_isPut 2 rfl) (by decide) (fun _ => ?_) (fun h => absurd h (by decide))
  refine (Classical.em (its < 2)).elim (fun hR => ?_) (fun hR => ?_)
  · refine (Classical.em (pn < 16)).elim (fun hC => ?_) (fun hC => ?_)
    · refine jr_iload_n CC (jd ddL_isPut 23 rfl) 2 rfl ?_
      refine jr_if_ne 50 CC (jd ddL_isPut 24 rfl) (by decide) (fun h => absurd h (by decide)) (fun _ => ?_)
      refine jr_iload_n CC (jd ddL_isPut 25 rfl) 3 rfl ?_
      refine jr_iconst (v := 2) CC (jd ddL_isPut 26 rfl) (by decide) ?_
      refine jr_icmp_ge 46 CC (jd ddL_isPut 27 rfl) (by decide) (fun h => absurd h (nI_ge (a := its) (b := 2) hR (by decide))) (fun _ => ?_)
      refine jr_iconst (v := 1) CC (jd ddL_isPut 28 rfl) (by decide) ?_
      refine jr_goto 98 CC (jd ddL_isPut 29 rfl) (by decide) ?_
      refine jr_istore [(4, .int 1), (0, .ref h0), (1, .ref bg), (2, .int 0), (3, .int (nI its))] CC (jd ddL_isPut 58 rfl) (by decide) rfl ?_
      refine jr_aload_n CC (jd ddL_isPut 59 rfl) 2 rfl ?_
      refine jr_iconst (v := 4) CC (jd ddL_isPut 60 rfl) (by decide) ?_
      refine jr_ialdN CC (jd ddL_isPut 61 rfl) 4 4 rfl (by decide) (by decide) (by decide) ?_
      refine jr_st [.int (nI pn)] (jst1 hg4) ?_
      refine jr_bipush (v := 16) CC (jd ddL_isPut 62 rfl) (by decide) ?_
      refine jr_icmp_ge 126 CC (jd ddL_isPut 63 rfl) (by decide) (fun h => absurd h (nI_ge (a := pn) (b := 16) (by omega) (by decide))) (fun _ => ?_)
      refine jr_iload_n CC (jd ddL_isPut 64 rfl) 3 rfl ?_
      refine jr_iconst (v := 2) CC (jd ddL_isPut 65 rfl) (by decide) ?_
      refine jr_icmp_lt 122 CC (jd ddL_isPut 66 rfl) (by decide) (fun _ => ?_) (fun h => absurd h (by decide))
      refine jr_iconst (v := 1) CC (jd ddL_isPut 74 rfl) (by decide) ?_
      refine jr_pc (pc' := 123) rfl ?_
      refine jr_goto 127 CC (jd ddL_isPut 75 rfl) (by decide) ?_
      refine jr_istore [(5, .int 1), (4, .int 1), (0, .ref h0), (1, .ref bg), (2, .int 0), (3, .int (nI its))] CC (jd ddL_isPut 77 rfl) (by decide) rfl ?_
      refine jr_iload_n CC (jd ddL_isPut 78 rfl) 4 rfl ?_
      refine jr_iconst (v := 2) CC (jd ddL_isPut 79 rfl) (by decide) ?_
      refine jr_icmp_ge 142 CC (jd ddL_isPut 80 rfl) (by decide) (fun h => absurd h (by decide)) (fun _ => ?_)
      refine jr_aload_n CC (jd ddL_isPut 81 rfl) 3 rfl ?_
      refine jr_iconst (v := 5) CC (jd ddL_isPut 82 rfl) (by decide) ?_
      refine jr_ialdN CC (jd ddL_isPut 83 rfl) 4 5 rfl (by decide) (by decide) (by decide) ?_
      refine jr_st [.int (nI ht)] (jst1 hg5) ?_
      refine jr_iconst (v := 1) CC (jd ddL_isPut 84 rfl) (by decide) ?_
      refine jr_iadd CC (jd ddL_isPut 85 rfl) ?_
      refine jr_st [.int (nI (ht + 1))] (jst1 (nI_add ht 1)) ?_
      refine jr_goto 158 CC (jd ddL_isPut 86 rfl) (by decide) ?_
      refine jr_istore [(6, .int (nI (ht + 1))), (5, .int 1), (4, .int 1), (0, .ref h0), (1, .ref bg), (2, .int 0), (3, .int (nI its))] CC (jd ddL_isPut 99 rfl) (by decide) rfl ?_
      refine jr_aload_n CC (jd ddL_isPut 100 rfl) 4 rfl ?_
      refine jr_iconst (v := 4) CC (jd ddL_isPut 101 rfl) (by decide) ?_
      refine jr_dup2 CC (jd ddL_isPut 102 rfl) rfl rfl ?_
      refine jr_ialdN CC (jd ddL_isPut 103 rfl) 4 4 rfl (by decide) (by decide) (by decide) ?_
      refine jr_st [.int (nI pn), .int 4, .ref bg] (jst1 hg4) ?_
      refine jr_iload CC (jd ddL_isPut 104 rfl) 2 rfl ?_
      refine jr_if_eq 178 CC (jd ddL_isPut 105 rfl) (by decide) (fun h => absurd h (by decide)) (fun _ => ?_)
      refine jr_iload CC (jd ddL_isPut 106 rfl) 1 rfl ?_
      refine jr_if_eq 178 CC (jd ddL_isPut 107 rfl) (by decide) (fun h => absurd h (by decide)) (fun _ => ?_)
      refine jr_iconst (v := 1) CC (jd ddL_isPut 108 rfl) (by decide) ?_
      refine jr_pc (pc' := 175) rfl ?_
      refine jr_goto 179 CC (jd ddL_isPut 109 rfl) (by decide) ?_
      refine jr_iadd CC (jd ddL_isPut 111 rfl) ?_
      refine jr_st [.int (nI (pn + 1)), .int 4, .ref bg] (jst1 (nI_add pn 1)) ?_
      refine jr_iastN CC (jd ddL_isPut 112 rfl) 4 4 rfl (by decide) (by decide) (by decide) ?_
      refine jr_aload_n CC (jd ddL_isPut 113 rfl) 4 rfl ?_
      refine jr_iconst (v := 5) CC (jd ddL_isPut 114 rfl) (by decide) ?_
      refine jr_iload CC (jd ddL_isPut 115 rfl) 2 rfl ?_
      refine jr_if_eq 198 CC (jd ddL_isPut 116 rfl) (by decide) (fun h => absurd h (by decide)) (fun _ => ?_)
      refine jr_iload CC (jd ddL_isPut 117 rfl) 1 rfl ?_
      refine jr_if_eq 198 CC (jd ddL_isPut 118 rfl) (by decide) (fun h => absurd h (by decide)) (fun _ => ?_)
      refine jr_iload CC (jd ddL_isPut 119 rfl) 0 rfl ?_
      refine jr_goto 201 CC (jd ddL_isPut 120 rfl) (by decide) ?_
      refine jr_iastN CC (jd ddL_isPut 124 rfl) 4 5 rfl (by decide) (by decide) (by decide) ?_
      refine jr_aload_n CC (jd ddL_isPut 125 rfl) 3 rfl ?_
      refine jr_iload_n CC (jd ddL_isPut 126 rfl) 5 rfl ?_
      refine jr_iload_n CC (jd ddL_isPut 127 rfl) 6 rfl ?_
      refine jr_callW (rest := []) [.ref h0, .int 0, .int (nI its)] CC (jd ddL_isPut 128 rfl) (jy_L_194 CC) (k_L_puts0 l t hfl h0 x1 x2 x3 x4 x5 x6 fi e0 e1 e2 e3 pn ht KA DA (nI its) hpn (by first | assumption | omega | decide)) [0, 1, 2, 3] rfl (by decide) rfl rfl (by decide) (Nat.le_of_ble_eq_true rfl) (by rintro v u h; rcases h with ⟨z9_0, rfl, rfl⟩ | ⟨z9_0, rfl, rfl⟩ | ⟨z9_0, rfl, rfl⟩ <;> exact (show ([h0, x4, e0, e1] : List Nat) = [h0, x4, e0, e1] from rfl)) (fun _ _ h => h.elim) (fun _ _ h => h.elim) (fun v u h => ?_)
      rcases h with ⟨c9, rfl, rfl⟩ | ⟨c10, rfl, rfl⟩ | ⟨c11, rfl, rfl⟩
      · exact absurd ((ePutC_v (show its < 1000000 by omega) hpn).symm.trans c9) (by rw [if_pos hR, if_pos hC]; decide)
      · exact absurd ((ePutC_v (show its < 1000000 by omega) hpn).symm.trans c10) (by rw [if_pos hR, if_pos hC]; decide)
      · refine jr_norm [(h0, .inr (9, [.ref x1, .ref x2, .ref x3, .ref x4, .ref x5, .ref x6, .int fi])), (x4, .inr (2, [.ref e0, .ref e1, .ref e2, .ref e3, .int (nI (pn + 1)), .int (nI (ht + 1))])), (e0, .inl (t 0, 16, .inl (upd KA pn 0))), (e1, .inl (t 0, 16, .inl (upd DA pn (nI its)))), (bg, .inl (t 0, 7, .inl (upd (upd g 4 (nI (pn + 1))) 5 (nI (ht + 1)))))] [.int (nI (ht + 1))] 208 2 12 rfl rfl rfl rfl rfl ?_
        refine jr_iload CC (jd ddL_isPut 129 rfl) 2 rfl ?_
        refine jr_if_ne 218 CC (jd ddL_isPut 130 rfl) (by decide) (fun _ => ?_) (fun h => absurd h (by decide))
        refine jr_iload CC (jd ddL_isPut 133 rfl) 1 rfl ?_
        refine jr_if_eq 228 CC (jd ddL_isPut 134 rfl) (by decide) (fun h => absurd h (by decide)) (fun _ => ?_)
        refine jr_iload CC (jd ddL_isPut 135 rfl) 0 rfl ?_
        refine jr_goto 230 CC (jd ddL_isPut 136 rfl) (by decide) ?_
        refine jr_icmp_ne 237 CC (jd ddL_isPut 138 rfl) (by decide) (fun h => absurd h (fun h9 => h9 rfl)) (fun _ => ?_)
        refine jr_iconst (v := 1) CC (jd ddL_isPut 139 rfl) (by decide) ?_
        refine jr_goto 238 CC (jd ddL_isPut 140 rfl) (by decide) ?_
        exact jr_zret rfl CC MM (jd ddL_isPut 142 rfl) rfl (by decide) (by decide) ⟨(pn + 1), (ht + 1), (upd KA pn 0), (upd DA pn (nI its)), (upd (upd g 4 (nI (pn + 1))) 5 (nI (ht + 1))), putP_of (by omega) (by omega) (putP_D hDA (by omega)) rfl rfl, rfl, rfl⟩
    · refine jr_iload_n CC (jd ddL_isPut 23 rfl) 2 rfl ?_
      refine jr_if_ne 50 CC (jd ddL_isPut 24 rfl) (by decide) (fun h => absurd h (by decide)) (fun _ => ?_)
      refine jr_iload_n CC (jd ddL_isPut 25 rfl) 3 rfl ?_
      refine jr_iconst (v := 2) CC (jd ddL_isPut 26 rfl) (by decide) ?_
      refine jr_icmp_ge 46 CC (jd ddL_isPut 27 rfl) (by decide) (fun h => absurd h (nI_ge (a := its) (b := 2) hR (by decide))) (fun _ => ?_)
      refine jr_iconst (v := 1) CC (jd ddL_isPut 28 rfl) (by decide) ?_
      refine jr_goto 98 CC (jd ddL_isPut 29 rfl) (by decide) ?_
      refine jr_istore [(4, .int 1), (0, .ref h0), (1, .ref bg), (2, .int 0), (3, .int (nI its))] CC (jd ddL_isPut 58 rfl) (by decide) rfl ?_
      refine jr_aload_n CC (jd ddL_isPut 59 rfl) 2 rfl ?_
      refine jr_iconst (v := 4) CC (jd ddL_isPut 60 rfl) (by decide) ?_
      refine jr_ialdN CC (jd ddL_isPut 61 rfl) 4 4 rfl (by decide) (by decide) (by decide) ?_
      refine jr_st [.int (nI pn)] (jst1 hg4) ?_
      refine jr_bipush (v := 16) CC (jd ddL_isPut 62 rfl) (by decide) ?_
      refine jr_icmp_ge 126 CC (jd ddL_isPut 63 rfl) (by decide) (fun c15 => ?_) (fun c15 => ?_)
      · have n15 := jle_of (a := 16) (b := pn) c15 (by omega) (by omega)
        refine jr_iconst (v := 0) CC (jd ddL_isPut 76 rfl) (by decide) ?_
        refine jr_istore [(5, .int 0), (4, .int 1), (0, .ref h0), (1, .ref bg), (2, .int 0), (3, .int (nI its))] CC (jd ddL_isPut 77 rfl) (by decide) rfl ?_
        refine jr_iload_n CC (jd ddL_isPut 78 rfl) 4 rfl ?_
        refine jr_iconst (v := 2) CC (jd ddL_isPut 79 rfl) (by decide) ?_
        refine jr_pc (pc' := 131) rfl ?_
        refine jr_icmp_ge 142 CC (jd ddL_isPut 80 rfl) (by decide) (fun h => absurd h (by decide)) (fun _ => ?_)
        refine jr_aload_n CC (jd ddL_isPut 81 rfl) 3 rfl ?_
        refine jr_iconst (v := 5) CC (jd ddL_isPut 82 rfl) (by decide) ?_
        refine jr_ialdN CC (jd ddL_isPut 83 rfl) 4 5 rfl (by decide) (by decide) (by decide) ?_
        refine jr_st [.int (nI ht)] (jst1 hg5) ?_
        refine jr_iconst (v := 1) CC (jd ddL_isPut 84 rfl) (by decide) ?_
        refine jr_iadd CC (jd ddL_isPut 85 rfl) ?_
        refine jr_st [.int (nI (ht + 1))] (jst1 (nI_add ht 1)) ?_
        refine jr_goto 158 CC (jd ddL_isPut 86 rfl) (by decide) ?_
        refine jr_istore [(6, .int (nI (ht + 1))), (5, .int 0), (4, .int 1), (0, .ref h0), (1, .ref bg), (2, .int 0), (3, .int (nI its))] CC (jd ddL_isPut 99 rfl) (by decide) rfl ?_
        refine jr_aload_n CC (jd ddL_isPut 100 rfl) 4 rfl ?_
        refine jr_iconst (v := 4) CC (jd ddL_isPut 101 rfl) (by decide) ?_
        refine jr_dup2 CC (jd ddL_isPut 102 rfl) rfl rfl ?_
        refine jr_ialdN CC (jd ddL_isPut 103 rfl) 4 4 rfl (by decide) (by decide) (by decide) ?_
        refine jr_st [.int (nI pn), .int 4, .ref bg] (jst1 hg4) ?_
        refine jr_iload CC (jd ddL_isPut 104 rfl) 2 rfl ?_
        refine jr_if_eq 178 CC (jd ddL_isPut 105 rfl) (by decide) (fun h => absurd h (by decide)) (fun _ => ?_)
        refine jr_iload CC (jd ddL_isPut 106 rfl) 1 rfl ?_
        refine jr_if_eq 178 CC (jd ddL_isPut 107 rfl) (by decide) (fun _ => ?_) (fun h => absurd h (by decide))
        refine jr_iconst (v := 0) CC (jd ddL_isPut 110 rfl) (by decide) ?_
        refine jr_pc (pc' := 179) rfl ?_
        refine jr_iadd CC (jd ddL_isPut 111 rfl) ?_
        refine jr_st [.int (nI (pn + 0)), .int 4, .ref bg] (jst1 (nI_add pn 0)) ?_
        refine jr_iastN CC (jd ddL_isPut 112 rfl) 4 4 rfl (by decide) (by decide) (by decide) ?_
        refine jr_aload_n CC (jd ddL_isPut 113 rfl) 4 rfl ?_
        refine jr_iconst (v := 5) CC (jd ddL_isPut 114 rfl) (by decide) ?_
        refine jr_iload CC (jd ddL_isPut 115 rfl) 2 rfl ?_
        refine jr_if_eq 198 CC (jd ddL_isPut 116 rfl) (by decide) (fun h => absurd h (by decide)) (fun _ => ?_)
        refine jr_iload CC (jd ddL_isPut 117 rfl) 1 rfl ?_
        refine jr_if_eq 198 CC (jd ddL_isPut 118 rfl) (by decide) (fun _ => ?_) (fun h => absurd h (by decide))
        refine jr_aload_n CC (jd ddL_isPut 121 rfl) 4 rfl ?_
        refine jr_iconst (v := 5) CC (jd ddL_isPut 122 rfl) (by decide) ?_
        refine jr_pc (pc' := 200) rfl ?_
        refine jr_ialdN CC (jd ddL_isPut 123 rfl) 4 5 rfl (by decide) (by decide) (by decide) ?_
        refine jr_st [.int (nI ht), .int 5, .ref bg] (jst1 ((pk_un (by decide)).trans hg5)) ?_
        refine jr_iastN CC (jd ddL_isPut 124 rfl) 4 5 rfl (by decide) (by decide) (by decide) ?_
        refine jr_aload_n CC (jd ddL_isPut 125 rfl) 3 rfl ?_
        refine jr_iload_n CC (jd ddL_isPut 126 rfl) 5 rfl ?_
        refine jr_iload_n CC (jd ddL_isPut 127 rfl) 6 rfl ?_
        refine jr_callW (rest := []) [.ref h0, .int 0, .int (nI its)] CC (jd ddL_isPut 128 rfl) (jy_L_194 CC) (k_L_puts0 l t hfl h0 x1 x2 x3 x4 x5 x6 fi e0 e1 e2 e3 pn ht KA DA (nI its) hpn (by first | assumption | omega | decide)) [0, 1, 2, 3] rfl (by decide) rfl rfl (by decide) (Nat.le_of_ble_eq_true rfl) (by rintro v u h; rcases h with ⟨z9_0, rfl, rfl⟩ | ⟨z9_0, rfl, rfl⟩ | ⟨z9_0, rfl, rfl⟩ <;> exact (show ([h0, x4, e0, e1] : List Nat) = [h0, x4, e0, e1] from rfl)) (fun _ _ h => h.elim) (fun _ _ h => h.elim) (fun v u h => ?_)
        rcases h with ⟨c21, rfl, rfl⟩ | ⟨c22, rfl, rfl⟩ | ⟨c23, rfl, rfl⟩
        · exact absurd ((ePutC_v (show its < 1000000 by omega) hpn).symm.trans c21) (by rw [if_pos hR, if_neg hC]; decide)
        · refine jr_norm [(h0, .inr (9, [.ref x1, .ref x2, .ref x3, .ref x4, .ref x5, .ref x6, .int fi])), (x4, .inr (2, [.ref e0, .ref e1, .ref e2, .ref e3, .int (nI pn), .int (nI ht)])), (e0, .inl (t 0, 16, .inl KA)), (e1, .inl (t 0, 16, .inl DA)), (bg, .inl (t 0, 7, .inl (upd (upd g 4 (nI (pn + 0))) 5 (nI ht))))] [.int (-10)] 208 2 12 rfl rfl rfl rfl rfl ?_
          refine jr_iload CC (jd ddL_isPut 129 rfl) 2 rfl ?_
          refine jr_if_ne 218 CC (jd ddL_isPut 130 rfl) (by decide) (fun _ => ?_) (fun h => absurd h (by decide))
          refine jr_iload CC (jd ddL_isPut 133 rfl) 1 rfl ?_
          refine jr_if_eq 228 CC (jd ddL_isPut 134 rfl) (by decide) (fun _ => ?_) (fun h => absurd h (by decide))
          refine jr_bipush (v := (-10)) CC (jd ddL_isPut 137 rfl) (by decide) ?_
          refine jr_icmp_ne 237 CC (jd ddL_isPut 138 rfl) (by decide) (fun h => absurd h (fun h9 => h9 rfl)) (fun _ => ?_)
          refine jr_iconst (v := 1) CC (jd ddL_isPut 139 rfl) (by decide) ?_
          refine jr_goto 238 CC (jd ddL_isPut 140 rfl) (by decide) ?_
          exact jr_zret rfl CC MM (jd ddL_isPut 142 rfl) rfl (by decide) (by decide) ⟨pn, ht, KA, DA, (upd (upd g 4 (nI (pn + 0))) 5 (nI ht)), putP_of (by omega) (by omega) hDA rfl rfl, rfl, rfl⟩
        · exact absurd ((ePutC_v (show its < 1000000 by omega) hpn).symm.trans c23) (by rw [if_pos hR, if_neg hC]; decide)
      · have n15 := jle_not (a := 16) (b := pn) c15 (by omega) (by omega)
        refine jr_iload_n CC (jd ddL_isPut 64 rfl) 3 rfl ?_
        refine jr_iconst (v := 2) CC (jd ddL_isPut 65 rfl) (by decide) ?_
        refine jr_icmp_lt 122 CC (jd ddL_isPut 66 rfl) (by decide) (fun _ => ?_) (fun h => absurd h (by decide))
        exact absurd (by omega) hC
  · refine (Classical.em (pn < 16)).elim (fun hC => ?_) (fun hC => ?_)
    · refine jr_iload_n CC (jd ddL_isPut 23 rfl) 2 rfl ?_
      refine jr_if_ne 50 CC (jd ddL_isPut 24 rfl) (by decide) (fun h => absurd h (by decide)) (fun _ => ?_)
      refine jr_iload_n CC (jd ddL_isPut 25 rfl) 3 rfl ?_
      refine jr_iconst (v := 2) CC (jd ddL_isPut 26 rfl) (by decide) ?_
      refine jr_icmp_ge 46 CC (jd ddL_isPut 27 rfl) (by decide) (fun _ => ?_) (fun h => absurd (nI_le (a := 2) (b := its) (by omega) (by omega)) h)
      refine jr_iconst (v := 0) CC (jd ddL_isPut 30 rfl) (by decide) ?_
      refine jr_goto 98 CC (jd ddL_isPut 31 rfl) (by decide) ?_
      refine jr_istore [(4, .int 0), (0, .ref h0), (1, .ref bg), (2, .int 0), (3, .int (nI its))] CC (jd ddL_isPut 58 rfl) (by decide) rfl ?_
      refine jr_aload_n CC (jd ddL_isPut 59 rfl) 2 rfl ?_
      refine jr_iconst (v := 4) CC (jd ddL_isPut 60 rfl) (by decide) ?_
      refine jr_ialdN CC (jd ddL_isPut 61 rfl) 4 4 rfl (by decide) (by decide) (by decide) ?_
      refine jr_st [.int (nI pn)] (jst1 hg4) ?_
      refine jr_bipush (v := 16) CC (jd ddL_isPut 62 rfl) (by decide) ?_
      refine jr_icmp_ge 126 CC (jd ddL_isPut 63 rfl) (by decide) (fun h => absurd h (nI_ge (a := pn) (b := 16) (by omega) (by decide))) (fun _ => ?_)
      refine jr_iload_n CC (jd ddL_isPut 64 rfl) 3 rfl ?_
      refine jr_iconst (v := 2) CC (jd ddL_isPut 65 rfl) (by decide) ?_
      refine jr_icmp_lt 122 CC (jd ddL_isPut 66 rfl) (by decide) (fun _ => ?_) (fun h => absurd h (by decide))
      refine jr_iconst (v := 1) CC (jd ddL_isPut 74 rfl) (by decide) ?_
      refine jr_pc (pc' := 123) rfl ?_
      refine jr_goto 127 CC (jd ddL_isPut 75 rfl) (by decide) ?_
      refine jr_istore [(5, .int 1), (4, .int 0), (0, .ref h0), (1, .ref bg), (2, .int 0), (3, .int (nI its))] CC (jd ddL_isPut 77 rfl) (by decide) rfl ?_
      refine jr_iload_n CC (jd ddL_isPut 78 rfl) 4 rfl ?_
      refine jr_iconst (v := 2) CC (jd ddL_isPut 79 rfl) (by decide) ?_
      refine jr_icmp_ge 142 CC (jd ddL_isPut 80 rfl) (by decide) (fun h => absurd h (by decide)) (fun _ => ?_)
      refine jr_aload_n CC (jd ddL_isPut 81 rfl) 3 rfl ?_
      refine jr_iconst (v := 5) CC (jd ddL_isPut 82 rfl) (by decide) ?_
      refine jr_ialdN CC (jd ddL_isPut 83 rfl) 4 5 rfl (by decide) (by decide) (by decide) ?_
      refine jr_st [.int (nI ht)] (jst1 hg5) ?_
      refine jr_iconst (v := 1) CC (jd ddL_isPut 84 rfl) (by decide) ?_
      refine jr_iadd CC (jd ddL_isPut 85 rfl) ?_
      refine jr_st [.int (nI (ht + 1))] (jst1 (nI_add ht 1)) ?_
      refine jr_goto 158 CC (jd ddL_isPut 86 rfl) (by decide) ?_
      refine jr_istore [(6, .int (nI (ht + 1))), (5, .int 1), (4, .int 0), (0, .ref h0), (1, .ref bg), (2, .int 0), (3, .int (nI its))] CC (jd ddL_isPut 99 rfl) (by decide) rfl ?_
      refine jr_aload_n CC (jd ddL_isPut 100 rfl) 4 rfl ?_
      refine jr_iconst (v := 4) CC (jd ddL_isPut 101 rfl) (by decide) ?_
      refine jr_dup2 CC (jd ddL_isPut 102 rfl) rfl rfl ?_
      refine jr_ialdN CC (jd ddL_isPut 103 rfl) 4 4 rfl (by decide) (by decide) (by decide) ?_
      refine jr_st [.int (nI pn), .int 4, .ref bg] (jst1 hg4) ?_
      refine jr_iload CC (jd ddL_isPut 104 rfl) 2 rfl ?_
      refine jr_if_eq 178 CC (jd ddL_isPut 105 rfl) (by decide) (fun _ => ?_) (fun h => absurd h (by decide))
      refine jr_iconst (v := 0) CC (jd ddL_isPut 110 rfl) (by decide) ?_
      refine jr_iadd CC (jd ddL_isPut 111 rfl) ?_
      refine jr_st [.int (nI (pn + 0)), .int 4, .ref bg] (jst1 (nI_add pn 0)) ?_
      refine jr_iastN CC (jd ddL_isPut 112 rfl) 4 4 rfl (by decide) (by decide) (by decide) ?_
      refine jr_pc (pc' := 181) rfl ?_
      refine jr_aload_n CC (jd ddL_isPut 113 rfl) 4 rfl ?_
      refine jr_iconst (v := 5) CC (jd ddL_isPut 114 rfl) (by decide) ?_
      refine jr_iload CC (jd ddL_isPut 115 rfl) 2 rfl ?_
      refine jr_if_eq 198 CC (jd ddL_isPut 116 rfl) (by decide) (fun _ => ?_) (fun h => absurd h (by decide))
      refine jr_aload_n CC (jd ddL_isPut 121 rfl) 4 rfl ?_
      refine jr_iconst (v := 5) CC (jd ddL_isPut 122 rfl) (by decide) ?_
      refine jr_ialdN CC (jd ddL_isPut 123 rfl) 4 5 rfl (by decide) (by decide) (by decide) ?_
      refine jr_st [.int (nI ht), .int 5, .ref bg] (jst1 ((pk_un (by decide)).trans hg5)) ?_
      refine jr_iastN CC (jd ddL_isPut 124 rfl) 4 5 rfl (by decide) (by decide) (by decide) ?_
      refine jr_aload_n CC (jd ddL_isPut 125 rfl) 3 rfl ?_
      refine jr_iload_n CC (jd ddL_isPut 126 rfl) 5 rfl ?_
      refine jr_pc (pc' := 204) rfl ?_
      refine jr_iload_n CC (jd ddL_isPut 127 rfl) 6 rfl ?_
      refine jr_callW (rest := []) [.ref h0, .int 0, .int (nI its)] CC (jd ddL_isPut 128 rfl) (jy_L_194 CC) (k_L_puts0 l t hfl h0 x1 x2 x3 x4 x5 x6 fi e0 e1 e2 e3 pn ht KA DA (nI its) hpn (by first | assumption | omega | decide)) [0, 1, 2, 3] rfl (by decide) rfl rfl (by decide) (Nat.le_of_ble_eq_true rfl) (by rintro v u h; rcases h with ⟨z9_0, rfl, rfl⟩ | ⟨z9_0, rfl, rfl⟩ | ⟨z9_0, rfl, rfl⟩ <;> exact (show ([h0, x4, e0, e1] : List Nat) = [h0, x4, e0, e1] from rfl)) (fun _ _ h => h.elim) (fun _ _ h => h.elim) (fun v u h => ?_)
      rcases h with ⟨c32, rfl, rfl⟩ | ⟨c33, rfl, rfl⟩ | ⟨c34, rfl, rfl⟩
      · refine jr_norm [(h0, .inr (9, [.ref x1, .ref x2, .ref x3, .ref x4, .ref x5, .ref x6, .int fi])), (x4, .inr (2, [.ref e0, .ref e1, .ref e2, .ref e3, .int (nI pn), .int (nI ht)])), (e0, .inl (t 0, 16, .inl KA)), (e1, .inl (t 0, 16, .inl DA)), (bg, .inl (t 0, 7, .inl (upd (upd g 4 (nI (pn + 0))) 5 (nI ht))))] [.int (-20)] 208 2 12 rfl rfl rfl rfl rfl ?_
        refine jr_iload CC (jd ddL_isPut 129 rfl) 2 rfl ?_
        refine jr_if_ne 218 CC (jd ddL_isPut 130 rfl) (by decide) (fun h => absurd h (by decide)) (fun _ => ?_)
        refine jr_bipush (v := (-20)) CC (jd ddL_isPut 131 rfl) (by decide) ?_
        refine jr_goto 230 CC (jd ddL_isPut 132 rfl) (by decide) ?_
        refine jr_icmp_ne 237 CC (jd ddL_isPut 138 rfl) (by decide) (fun h => absurd h (fun h9 => h9 rfl)) (fun _ => ?_)
        refine jr_iconst (v := 1) CC (jd ddL_isPut 139 rfl) (by decide) ?_
        refine jr_goto 238 CC (jd ddL_isPut 140 rfl) (by decide) ?_
        exact jr_zret rfl CC MM (jd ddL_isPut 142 rfl) rfl (by decide) (by decide) ⟨pn, ht, KA, DA, (upd (upd g 4 (nI (pn + 0))) 5 (nI ht)), putP_of (by omega) (by omega) hDA rfl rfl, rfl, rfl⟩
      · exact absurd ((ePutC_v (show its < 1000000 by omega) hpn).symm.trans c33) (by rw [if_neg hR]; decide)
      · exact absurd ((ePutC_v (show its < 1000000 by omega) hpn).symm.trans c34) (by rw [if_neg hR]; decide)
    · refine jr_iload_n CC (jd ddL_isPut 23 rfl) 2 rfl ?_
      refine jr_if_ne 50 CC (jd ddL_isPut 24 rfl) (by decide) (fun h => absurd h (by decide)) (fun _ => ?_)
      refine jr_iload_n CC (jd ddL_isPut 25 rfl) 3 rfl ?_
      refine jr_iconst (v := 2) CC (jd ddL_isPut 26 rfl) (by decide) ?_
      refine jr_icmp_ge 46 CC (jd ddL_isPut 27 rfl) (by decide) (fun _ => ?_) (fun h => absurd (nI_le (a := 2) (b := its) (by omega) (by omega)) h)
      refine jr_iconst (v := 0) CC (jd ddL_isPut 30 rfl) (by decide) ?_
      refine jr_goto 98 CC (jd ddL_isPut 31 rfl) (by decide) ?_
      refine jr_istore [(4, .int 0), (0, .ref h0), (1, .ref bg), (2, .int 0), (3, .int (nI its))] CC (jd ddL_isPut 58 rfl) (by decide) rfl ?_
      refine jr_aload_n CC (jd ddL_isPut 59 rfl) 2 rfl ?_
      refine jr_iconst (v := 4) CC (jd ddL_isPut 60 rfl) (by decide) ?_
      refine jr_ialdN CC (jd ddL_isPut 61 rfl) 4 4 rfl (by decide) (by decide) (by decide) ?_
      refine jr_st [.int (nI pn)] (jst1 hg4) ?_
      refine jr_bipush (v := 16) CC (jd ddL_isPut 62 rfl) (by decide) ?_
      refine jr_icmp_ge 126 CC (jd ddL_isPut 63 rfl) (by decide) (fun c37 => ?_) (fun c37 => ?_)
      · have n37 := jle_of (a := 16) (b := pn) c37 (by omega) (by omega)
        refine jr_iconst (v := 0) CC (jd ddL_isPut 76 rfl) (by decide) ?_
        refine jr_istore [(5, .int 0), (4, .int 0), (0, .ref h0), (1, .ref bg), (2, .int 0), (3, .int (nI its))] CC (jd ddL_isPut 77 rfl) (by decide) rfl ?_
        refine jr_iload_n CC (jd ddL_isPut 78 rfl) 4 rfl ?_
        refine jr_iconst (v := 2) CC (jd ddL_isPut 79 rfl) (by decide) ?_
        refine jr_pc (pc' := 131) rfl ?_
        refine jr_icmp_ge 142 CC (jd ddL_isPut 80 rfl) (by decide) (fun h => absurd h (by decide)) (fun _ => ?_)
        refine jr_aload_n CC (jd ddL_isPut 81 rfl) 3 rfl ?_
        refine jr_iconst (v := 5) CC (jd ddL_isPut 82 rfl) (by decide) ?_
        refine jr_ialdN CC (jd ddL_isPut 83 rfl) 4 5 rfl (by decide) (by decide) (by decide) ?_
        refine jr_st [.int (nI ht)] (jst1 hg5) ?_
        refine jr_iconst (v := 1) CC (jd ddL_isPut 84 rfl) (by decide) ?_
        refine jr_iadd CC (jd ddL_isPut 85 rfl) ?_
        refine jr_st [.int (nI (ht + 1))] (jst1 (nI_add ht 1)) ?_
        refine jr_goto 158 CC (jd ddL_isPut 86 rfl) (by decide) ?_
        refine jr_istore [(6, .int (nI (ht + 1))), (5, .int 0), (4, .int 0), (0, .ref h0), (1, .ref bg), (2, .int 0), (3, .int (nI its))] CC (jd ddL_isPut 99 rfl) (by decide) rfl ?_
        refine jr_aload_n CC (jd ddL_isPut 100 rfl) 4 rfl ?_
        refine jr_iconst (v := 4) CC (jd ddL_isPut 101 rfl) (by decide) ?_
        refine jr_dup2 CC (jd ddL_isPut 102 rfl) rfl rfl ?_
        refine jr_ialdN CC (jd ddL_isPut 103 rfl) 4 4 rfl (by decide) (by decide) (by decide) ?_
        refine jr_st [.int (nI pn), .int 4, .ref bg] (jst1 hg4) ?_
        refine jr_iload CC (jd ddL_isPut 104 rfl) 2 rfl ?_
        refine jr_if_eq 178 CC (jd ddL_isPut 105 rfl) (by decide) (fun _ => ?_) (fun h => absurd h (by decide))
        refine jr_iconst (v := 0) CC (jd ddL_isPut 110 rfl) (by decide) ?_
        refine jr_iadd CC (jd ddL_isPut 111 rfl) ?_
        refine jr_st [.int (nI (pn + 0)), .int 4, .ref bg] (jst1 (nI_add pn 0)) ?_
        refine jr_iastN CC (jd ddL_isPut 112 rfl) 4 4 rfl (by decide) (by decide) (by decide) ?_
        refine jr_pc (pc' := 181) rfl ?_
        refine jr_aload_n CC (jd ddL_isPut 113 rfl) 4 rfl ?_
        refine jr_iconst (v := 5) CC (jd ddL_isPut 114 rfl) (by decide) ?_
        refine jr_iload CC (jd ddL_isPut 115 rfl) 2 rfl ?_
        refine jr_if_eq 198 CC (jd ddL_isPut 116 rfl) (by decide) (fun _ => ?_) (fun h => absurd h (by decide))
        refine jr_aload_n CC (jd ddL_isPut 121 rfl) 4 rfl ?_
        refine jr_iconst (v := 5) CC (jd ddL_isPut 122 rfl) (by decide) ?_
        refine jr_ialdN CC (jd ddL_isPut 123 rfl) 4 5 rfl (by decide) (by decide) (by decide) ?_
        refine jr_st [.int (nI ht), .int 5, .ref bg] (jst1 ((pk_un (by decide)).trans hg5)) ?_
        refine jr_iastN CC (jd ddL_isPut 124 rfl) 4 5 rfl (by decide) (by decide) (by decide) ?_
        refine jr_aload_n CC (jd ddL_isPut 125 rfl) 3 rfl ?_
        refine jr_iload_n CC (jd ddL_isPut 126 rfl) 5 rfl ?_
        refine jr_pc (pc' := 204) rfl ?_
        refine jr_iload_n CC (jd ddL_isPut 127 rfl) 6 rfl ?_
        refine jr_callW (rest := []) [.ref h0, .int 0, .int (nI its)] CC (jd ddL_isPut 128 rfl) (jy_L_194 CC) (k_L_puts0 l t hfl h0 x1 x2 x3 x4 x5 x6 fi e0 e1 e2 e3 pn ht KA DA (nI its) hpn (by first | assumption | omega | decide)) [0, 1, 2, 3] rfl (by decide) rfl rfl (by decide) (Nat.le_of_ble_eq_true rfl) (by rintro v u h; rcases h with ⟨z9_0, rfl, rfl⟩ | ⟨z9_0, rfl, rfl⟩ | ⟨z9_0, rfl, rfl⟩ <;> exact (show ([h0, x4, e0, e1] : List Nat) = [h0, x4, e0, e1] from rfl)) (fun _ _ h => h.elim) (fun _ _ h => h.elim) (fun v u h => ?_)
        rcases h with ⟨c41, rfl, rfl⟩ | ⟨c42, rfl, rfl⟩ | ⟨c43, rfl, rfl⟩
        · refine jr_norm [(h0, .inr (9, [.ref x1, .ref x2, .ref x3, .ref x4, .ref x5, .ref x6, .int fi])), (x4, .inr (2, [.ref e0, .ref e1, .ref e2, .ref e3, .int (nI pn), .int (nI ht)])), (e0, .inl (t 0, 16, .inl KA)), (e1, .inl (t 0, 16, .inl DA)), (bg, .inl (t 0, 7, .inl (upd (upd g 4 (nI (pn + 0))) 5 (nI ht))))] [.int (-20)] 208 2 12 rfl rfl rfl rfl rfl ?_
          refine jr_iload CC (jd ddL_isPut 129 rfl) 2 rfl ?_
          refine jr_if_ne 218 CC (jd ddL_isPut 130 rfl) (by decide) (fun h => absurd h (by decide)) (fun _ => ?_)
          refine jr_bipush (v := (-20)) CC (jd ddL_isPut 131 rfl) (by decide) ?_
          refine jr_goto 230 CC (jd ddL_isPut 132 rfl) (by decide) ?_
          refine jr_icmp_ne 237 CC (jd ddL_isPut 138 rfl) (by decide) (fun h => absurd h (fun h9 => h9 rfl)) (fun _ => ?_)
          refine jr_iconst (v := 1) CC (jd ddL_isPut 139 rfl) (by decide) ?_
          refine jr_goto 238 CC (jd ddL_isPut 140 rfl) (by decide) ?_
          exact jr_zret rfl CC MM (jd ddL_isPut 142 rfl) rfl (by decide) (by decide) ⟨pn, ht, KA, DA, (upd (upd g 4 (nI (pn + 0))) 5 (nI ht)), putP_of (by omega) (by omega) hDA rfl rfl, rfl, rfl⟩
        · exact absurd ((ePutC_v (show its < 1000000 by omega) hpn).symm.trans c42) (by rw [if_neg hR]; decide)
        · exact absurd ((ePutC_v (show its < 1000000 by omega) hpn).symm.trans c43) (by rw [if_neg hR]; decide)
      · have n37 := jle_not (a := 16) (b := pn) c37 (by omega) (by omega)
        refine jr_iload_n CC (jd ddL_isPut 64 rfl) 3 rfl ?_
        refine jr_iconst (v := 2) CC (jd ddL_isPut 65 rfl) (by decide) ?_
        refine jr_icmp_lt 122 CC (jd ddL_isPut 66 rfl) (by decide) (fun _ => ?_) (fun h => absurd h (by decide))
        exact absurd (by omega) hC
set_option maxHeartbeats 8000000 in
set_option maxRecDepth 100000 in
theorem k_L_isPut1 (l : Launch) (t : Nat → ClassId) (hfl : l.stackTraces = false) (h0 : Nat) (x1 : Nat) (x2 : Nat) (x3 : Nat) (x4 : Nat) (x5 : Nat) (x6 : Nat) (fi : Int32) (e0 : Nat) (e1 : Nat) (e2 : Nat) (e3 : Nat) (pn : Nat) (ht : Nat) (KA : Nat → Int32) (DA : Nat → Int32) (bg : Nat) (g : Nat → Int32) (its : Nat) (hpn : pn ≤ 16) (hht : ht ≤ pn) (hDA : ∀ z, z < pn → i6 (DA z)) (hg4 : g 4 = nI pn) (hg5 : g 5 = nI ht) (hits : its < 1200) : jKx l t yL_isPut (Cond.code yL_isPut cL_isPut 7 (some .boolean) :: jWS) { frames := 9, cells := 2, slots := 12, locals := 148 } [.ref h0, .ref bg, .int 1, .int (nI its)] [(h0, .inr (9, [.ref x1, .ref x2, .ref x3, .ref x4, .ref x5, .ref x6, .int fi])), (x4, .inr (2, [.ref e0, .ref e1, .ref e2, .ref e3, .int (nI pn), .int (nI ht)])), (e0, .inl (t 0, 16, .inl KA)), (e1, .inl (t 0, 16, .inl DA)), (bg, .inl (t 0, 7, .inl g))] (fun vv uu => (∃ pn9 : Nat, ∃ ht9 : Nat, ∃ KA9 : Nat → Int32, ∃ DA9 : Nat → Int32, ∃ g9 : Nat → Int32, (putP pn9 ht9 g DA9 g9) ∧ vv = some (.int 1) ∧ uu = [(h0, .inr (9, [.ref x1, .ref x2, .ref x3, .ref x4, .ref x5, .ref x6, .int fi])), (x4, .inr (2, [.ref e0, .ref e1, .ref e2, .ref e3, .int (nI pn9), .int (nI ht9)])), (e0, .inl (t 0, 16, .inl KA9)), (e1, .inl (t 0, 16, .inl DA9)), (bg, .inl (t 0, 7, .inl g9))])) (fun _ _ => False) := by
  refine jK_of hfl (by decide +kernel) (Nat.le_of_ble_eq_true rfl) ?_
  intro p e s m args below meth c D A Q CC MM
  refine jr_norm0 [(0, .ref h0), (1, .ref bg), (2, .int 1), (3, .int (nI its))] rfl ?_
  refine jr_iload_n CC (jd ddL_isPut 0 rfl) 2 rfl ?_
  refine jr_iconst (v := 4) CC (jd ddL_isPut 1 rfl) (by decide) ?_
  refine jr_icmp_ne 33 CC (jd ddL_isPut 2 rfl) (by decide) (fun _ => ?_) (fun h => absurd h (by decide))
  refine (Classical.em (its < 1001)).elim (fun hR => ?_) (fun hR => ?_)
  · refine (Classical.em (pn < 16)).elim (fun hC => ?_) (fun hC => ?_)
    · refine jr_iload_n CC (jd ddL_isPut 23 rfl) 2 rfl ?_
      refine jr_if_ne 50 CC (jd ddL_isPut 24 rfl) (by decide) (fun _ => ?_) (fun h => absurd h (by decide))
      refine jr_iload_n CC (jd ddL_isPut 32 rfl) 2 rfl ?_
      refine jr_iconst (v := 1) CC (jd ddL_isPut 33 rfl) (by decide) ?_
      refine jr_icmp_ne 70 CC (jd ddL_isPut 34 rfl) (by decide) (fun h => absurd h (by decide)) (fun _ => ?_)
      refine jr_iload_n CC (jd ddL_isPut 35 rfl) 3 rfl ?_
      refine jr_sipush (v := 1001) CC (jd ddL_isPut 36 rfl) (by decide) ?_
      refine jr_pc (pc' := 59) rfl ?_
      refine jr_icmp_ge 66 CC (jd ddL_isPut 37 rfl) (by decide) (fun h => absurd h (nI_ge (a := its) (b := 1001) hR (by decide))) (fun _ => ?_)
      refine jr_iconst (v := 1) CC (jd ddL_isPut 38 rfl) (by decide) ?_
      refine jr_goto 98 CC (jd ddL_isPut 39 rfl) (by decide) ?_
      refine jr_istore [(4, .int 1), (0, .ref h0), (1, .ref bg), (2, .int 1), (3, .int (nI its))] CC (jd ddL_isPut 58 rfl) (by decide) rfl ?_
      refine jr_aload_n CC (jd ddL_isPut 59 rfl) 2 rfl ?_
      refine jr_iconst (v := 4) CC (jd ddL_isPut 60 rfl) (by decide) ?_
      refine jr_ialdN CC (jd ddL_isPut 61 rfl) 4 4 rfl (by decide) (by decide) (by decide) ?_
      refine jr_st [.int (nI pn)] (jst1 hg4) ?_
      refine jr_bipush (v := 16) CC (jd ddL_isPut 62 rfl) (by decide) ?_
      refine jr_icmp_ge 126 CC (jd ddL_isPut 63 rfl) (by decide) (fun h => absurd h (nI_ge (a := pn) (b := 16) (by omega) (by decide))) (fun _ => ?_)
      refine jr_iload_n CC (jd ddL_isPut 64 rfl) 3 rfl ?_
      refine jr_iconst (v := 2) CC (jd ddL_isPut 65 rfl) (by decide) ?_
      refine jr_icmp_lt 122 CC (jd ddL_isPut 66 rfl) (by decide) (fun _ => ?_) (fun h => absurd h (by decide))
      refine jr_iconst (v := 1) CC (jd ddL_isPut 74 rfl) (by decide) ?_
      refine jr_pc (pc' := 123) rfl ?_
      refine jr_goto 127 CC (jd ddL_isPut 75 rfl) (by decide) ?_
      refine jr_istore [(5, .int 1), (4, .int 1), (0, .ref h0), (1, .ref bg), (2, .int 1), (3, .int (nI its))] CC (jd ddL_isPut 77 rfl) (by decide) rfl ?_
      refine jr_iload_n CC (jd ddL_isPut 78 rfl) 4 rfl ?_
      refine jr_iconst (v := 2) CC (jd ddL_isPut 79 rfl) (by decide) ?_
      refine jr_icmp_ge 142 CC (jd ddL_isPut 80 rfl) (by decide) (fun h => absurd h (by decide)) (fun _ => ?_)
      refine jr_aload_n CC (jd ddL_isPut 81 rfl) 3 rfl ?_
      refine jr_iconst (v := 5) CC (jd ddL_isPut 82 rfl) (by decide) ?_
      refine jr_ialdN CC (jd ddL_isPut 83 rfl) 4 5 rfl (by decide) (by decide) (by decide) ?_
      refine jr_st [.int (nI ht)] (jst1 hg5) ?_
      refine jr_iconst (v := 1) CC (jd ddL_isPut 84 rfl) (by decide) ?_
      refine jr_iadd CC (jd ddL_isPut 85 rfl) ?_
      refine jr_st [.int (nI (ht + 1))] (jst1 (nI_add ht 1)) ?_
      refine jr_goto 158 CC (jd ddL_isPut 86 rfl) (by decide) ?_
      refine jr_istore [(6, .int (nI (ht + 1))), (5, .int 1), (4, .int 1), (0, .ref h0), (1, .ref bg), (2, .int 1), (3, .int (nI its))] CC (jd ddL_isPut 99 rfl) (by decide) rfl ?_
      refine jr_aload_n CC (jd ddL_isPut 100 rfl) 4 rfl ?_
      refine jr_iconst (v := 4) CC (jd ddL_isPut 101 rfl) (by decide) ?_
      refine jr_dup2 CC (jd ddL_isPut 102 rfl) rfl rfl ?_
      refine jr_ialdN CC (jd ddL_isPut 103 rfl) 4 4 rfl (by decide) (by decide) (by decide) ?_
      refine jr_st [.int (nI pn), .int 4, .ref bg] (jst1 hg4) ?_
      refine jr_iload CC (jd ddL_isPut 104 rfl) 2 rfl ?_
      refine jr_if_eq 178 CC (jd ddL_isPut 105 rfl) (by decide) (fun h => absurd h (by decide)) (fun _ => ?_)
      refine jr_iload CC (jd ddL_isPut 106 rfl) 1 rfl ?_
      refine jr_if_eq 178 CC (jd ddL_isPut 107 rfl) (by decide) (fun h => absurd h (by decide)) (fun _ => ?_)
      refine jr_iconst (v := 1) CC (jd ddL_isPut 108 rfl) (by decide) ?_
      refine jr_pc (pc' := 175) rfl ?_
      refine jr_goto 179 CC (jd ddL_isPut 109 rfl) (by decide) ?_
      refine jr_iadd CC (jd ddL_isPut 111 rfl) ?_
      refine jr_st [.int (nI (pn + 1)), .int 4, .ref bg] (jst1 (nI_add pn 1)) ?_
      refine jr_iastN CC (jd ddL_isPut 112 rfl) 4 4 rfl (by decide) (by decide) (by decide) ?_
      refine jr_aload_n CC (jd ddL_isPut 113 rfl) 4 rfl ?_
      refine jr_iconst (v := 5) CC (jd ddL_isPut 114 rfl) (by decide) ?_
      refine jr_iload CC (jd ddL_isPut 115 rfl) 2 rfl ?_
      refine jr_if_eq 198 CC (jd ddL_isPut 116 rfl) (by decide) (fun h => absurd h (by decide)) (fun _ => ?_)
      refine jr_iload CC (jd ddL_isPut 117 rfl) 1 rfl ?_
      refine jr_if_eq 198 CC (jd ddL_isPut 118 rfl) (by decide) (fun h => absurd h (by decide)) (fun _ => ?_)
      refine jr_iload CC (jd ddL_isPut 119 rfl) 0 rfl ?_
      refine jr_goto 201 CC (jd ddL_isPut 120 rfl) (by decide) ?_
      refine jr_iastN CC (jd ddL_isPut 124 rfl) 4 5 rfl (by decide) (by decide) (by decide) ?_
      refine jr_aload_n CC (jd ddL_isPut 125 rfl) 3 rfl ?_
      refine jr_iload_n CC (jd ddL_isPut 126 rfl) 5 rfl ?_
      refine jr_iload_n CC (jd ddL_isPut 127 rfl) 6 rfl ?_
      refine jr_callW (rest := []) [.ref h0, .int 1, .int (nI its)] CC (jd ddL_isPut 128 rfl) (jy_L_194 CC) (k_L_puts1 l t hfl h0 x1 x2 x3 x4 x5 x6 fi e0 e1 e2 e3 pn ht KA DA (nI its) hpn (by first | assumption | omega | decide)) [0, 1, 2, 3] rfl (by decide) rfl rfl (by decide) (Nat.le_of_ble_eq_true rfl) (by rintro v u h; rcases h with ⟨z9_0, rfl, rfl⟩ | ⟨z9_0, rfl, rfl⟩ | ⟨z9_0, rfl, rfl⟩ <;> exact (show ([h0, x4, e0, e1] : List Nat) = [h0, x4, e0, e1] from rfl)) (fun _ _ h => h.elim) (fun _ _ h => h.elim) (fun v u h => ?_)
      rcases h with ⟨c10, rfl, rfl⟩ | ⟨c11, rfl, rfl⟩ | ⟨c12, rfl, rfl⟩
      · exact absurd ((ePutK_v (show its < 1000000 by omega) hpn).symm.trans c10) (by rw [if_pos hR, if_pos hC]; decide)
      · exact absurd ((ePutK_v (show its < 1000000 by omega) hpn).symm.trans c11) (by rw [if_pos hR, if_pos hC]; decide)
      · refine jr_norm [(h0, .inr (9, [.ref x1, .ref x2, .ref x3, .ref x4, .ref x5, .ref x6, .int fi])), (x4, .inr (2, [.ref e0, .ref e1, .ref e2, .ref e3, .int (nI (pn + 1)), .int (nI (ht + 1))])), (e0, .inl (t 0, 16, .inl (upd KA pn 1))), (e1, .inl (t 0, 16, .inl (upd DA pn (nI its)))), (bg, .inl (t 0, 7, .inl (upd (upd g 4 (nI (pn + 1))) 5 (nI (ht + 1)))))] [.int (nI (ht + 1))] 208 2 12 rfl rfl rfl rfl rfl ?_
        refine jr_iload CC (jd ddL_isPut 129 rfl) 2 rfl ?_
        refine jr_if_ne 218 CC (jd ddL_isPut 130 rfl) (by decide) (fun _ => ?_) (fun h => absurd h (by decide))
        refine jr_iload CC (jd ddL_isPut 133 rfl) 1 rfl ?_
        refine jr_if_eq 228 CC (jd ddL_isPut 134 rfl) (by decide) (fun h => absurd h (by decide)) (fun _ => ?_)
        refine jr_iload CC (jd ddL_isPut 135 rfl) 0 rfl ?_
        refine jr_goto 230 CC (jd ddL_isPut 136 rfl) (by decide) ?_
        refine jr_icmp_ne 237 CC (jd ddL_isPut 138 rfl) (by decide) (fun h => absurd h (fun h9 => h9 rfl)) (fun _ => ?_)
        refine jr_iconst (v := 1) CC (jd ddL_isPut 139 rfl) (by decide) ?_
        refine jr_goto 238 CC (jd ddL_isPut 140 rfl) (by decide) ?_
        exact jr_zret rfl CC MM (jd ddL_isPut 142 rfl) rfl (by decide) (by decide) ⟨(pn + 1), (ht + 1), (upd KA pn 1), (upd DA pn (nI its)), (upd (upd g 4 (nI (pn + 1))) 5 (nI (ht + 1))), putP_of (by omega) (by omega) (putP_D hDA (by omega)) rfl rfl, rfl, rfl⟩
    · refine jr_iload_n CC (jd ddL_isPut 23 rfl) 2 rfl ?_
      refine jr_if_ne 50 CC (jd ddL_isPut 24 rfl) (by decide) (fun _ => ?_) (fun h => absurd h (by decide))
      refine jr_iload_n CC (jd ddL_isPut 32 rfl) 2 rfl ?_
      refine jr_iconst (v := 1) CC (jd ddL_isPut 33 rfl) (by decide) ?_
      refine jr_icmp_ne 70 CC (jd ddL_isPut 34 rfl) (by decide) (fun h => absurd h (by decide)) (fun _ => ?_)
      refine jr_iload_n CC (jd ddL_isPut 35 rfl) 3 rfl ?_
      refine jr_sipush (v := 1001) CC (jd ddL_isPut 36 rfl) (by decide) ?_
      refine jr_pc (pc' := 59) rfl ?_
      refine jr_icmp_ge 66 CC (jd ddL_isPut 37 rfl) (by decide) (fun h => absurd h (nI_ge (a := its) (b := 1001) hR (by decide))) (fun _ => ?_)
      refine jr_iconst (v := 1) CC (jd ddL_isPut 38 rfl) (by decide) ?_
      refine jr_goto 98 CC (jd ddL_isPut 39 rfl) (by decide) ?_
      refine jr_istore [(4, .int 1), (0, .ref h0), (1, .ref bg), (2, .int 1), (3, .int (nI its))] CC (jd ddL_isPut 58 rfl) (by decide) rfl ?_
      refine jr_aload_n CC (jd ddL_isPut 59 rfl) 2 rfl ?_
      refine jr_iconst (v := 4) CC (jd ddL_isPut 60 rfl) (by decide) ?_
      refine jr_ialdN CC (jd ddL_isPut 61 rfl) 4 4 rfl (by decide) (by decide) (by decide) ?_
      refine jr_st [.int (nI pn)] (jst1 hg4) ?_
      refine jr_bipush (v := 16) CC (jd ddL_isPut 62 rfl) (by decide) ?_
      refine jr_icmp_ge 126 CC (jd ddL_isPut 63 rfl) (by decide) (fun c17 => ?_) (fun c17 => ?_)
      · have n17 := jle_of (a := 16) (b := pn) c17 (by omega) (by omega)
        refine jr_iconst (v := 0) CC (jd ddL_isPut 76 rfl) (by decide) ?_
        refine jr_istore [(5, .int 0), (4, .int 1), (0, .ref h0), (1, .ref bg), (2, .int 1), (3, .int (nI its))] CC (jd ddL_isPut 77 rfl) (by decide) rfl ?_
        refine jr_iload_n CC (jd ddL_isPut 78 rfl) 4 rfl ?_
        refine jr_iconst (v := 2) CC (jd ddL_isPut 79 rfl) (by decide) ?_
        refine jr_pc (pc' := 131) rfl ?_
        refine jr_icmp_ge 142 CC (jd ddL_isPut 80 rfl) (by decide) (fun h => absurd h (by decide)) (fun _ => ?_)
        refine jr_aload_n CC (jd ddL_isPut 81 rfl) 3 rfl ?_
        refine jr_iconst (v := 5) CC (jd ddL_isPut 82 rfl) (by decide) ?_
        refine jr_ialdN CC (jd ddL_isPut 83 rfl) 4 5 rfl (by decide) (by decide) (by decide) ?_
        refine jr_st [.int (nI ht)] (jst1 hg5) ?_
        refine jr_iconst (v := 1) CC (jd ddL_isPut 84 rfl) (by decide) ?_
        refine jr_iadd CC (jd ddL_isPut 85 rfl) ?_
        refine jr_st [.int (nI (ht + 1))] (jst1 (nI_add ht 1)) ?_
        refine jr_goto 158 CC (jd ddL_isPut 86 rfl) (by decide) ?_
        refine jr_istore [(6, .int (nI (ht + 1))), (5, .int 0), (4, .int 1), (0, .ref h0), (1, .ref bg), (2, .int 1), (3, .int (nI its))] CC (jd ddL_isPut 99 rfl) (by decide) rfl ?_
        refine jr_aload_n CC (jd ddL_isPut 100 rfl) 4 rfl ?_
        refine jr_iconst (v := 4) CC (jd ddL_isPut 101 rfl) (by decide) ?_
        refine jr_dup2 CC (jd ddL_isPut 102 rfl) rfl rfl ?_
        refine jr_ialdN CC (jd ddL_isPut 103 rfl) 4 4 rfl (by decide) (by decide) (by decide) ?_
        refine jr_st [.int (nI pn), .int 4, .ref bg] (jst1 hg4) ?_
        refine jr_iload CC (jd ddL_isPut 104 rfl) 2 rfl ?_
        refine jr_if_eq 178 CC (jd ddL_isPut 105 rfl) (by decide) (fun h => absurd h (by decide)) (fun _ => ?_)
        refine jr_iload CC (jd ddL_isPut 106 rfl) 1 rfl ?_
        refine jr_if_eq 178 CC (jd ddL_isPut 107 rfl) (by decide) (fun _ => ?_) (fun h => absurd h (by decide))
        refine jr_iconst (v := 0) CC (jd ddL_isPut 110 rfl) (by decide) ?_
        refine jr_pc (pc' := 179) rfl ?_
        refine jr_iadd CC (jd ddL_isPut 111 rfl) ?_
        refine jr_st [.int (nI (pn + 0)), .int 4, .ref bg] (jst1 (nI_add pn 0)) ?_
        refine jr_iastN CC (jd ddL_isPut 112 rfl) 4 4 rfl (by decide) (by decide) (by decide) ?_
        refine jr_aload_n CC (jd ddL_isPut 113 rfl) 4 rfl ?_
        refine jr_iconst (v := 5) CC (jd ddL_isPut 114 rfl) (by decide) ?_
        refine jr_iload CC (jd ddL_isPut 115 rfl) 2 rfl ?_
        refine jr_if_eq 198 CC (jd ddL_isPut 116 rfl) (by decide) (fun h => absurd h (by decide)) (fun _ => ?_)
        refine jr_iload CC (jd ddL_isPut 117 rfl) 1 rfl ?_
        refine jr_if_eq 198 CC (jd ddL_isPut 118 rfl) (by decide) (fun _ => ?_) (fun h => absurd h (by decide))
        refine jr_aload_n CC (jd ddL_isPut 121 rfl) 4 rfl ?_
        refine jr_iconst (v := 5) CC (jd ddL_isPut 122 rfl) (by decide) ?_
        refine jr_pc (pc' := 200) rfl ?_
        refine jr_ialdN CC (jd ddL_isPut 123 rfl) 4 5 rfl (by decide) (by decide) (by decide) ?_
        refine jr_st [.int (nI ht), .int 5, .ref bg] (jst1 ((pk_un (by decide)).trans hg5)) ?_
        refine jr_iastN CC (jd ddL_isPut 124 rfl) 4 5 rfl (by decide) (by decide) (by decide) ?_
        refine jr_aload_n CC (jd ddL_isPut 125 rfl) 3 rfl ?_
        refine jr_iload_n CC (jd ddL_isPut 126 rfl) 5 rfl ?_
        refine jr_iload_n CC (jd ddL_isPut 127 rfl) 6 rfl ?_
        refine jr_callW (rest := []) [.ref h0, .int 1, .int (nI its)] CC (jd ddL_isPut 128 rfl) (jy_L_194 CC) (k_L_puts1 l t hfl h0 x1 x2 x3 x4 x5 x6 fi e0 e1 e2 e3 pn ht KA DA (nI its) hpn (by first | assumption | omega | decide)) [0, 1, 2, 3] rfl (by decide) rfl rfl (by decide) (Nat.le_of_ble_eq_true rfl) (by rintro v u h; rcases h with ⟨z9_0, rfl, rfl⟩ | ⟨z9_0, rfl, rfl⟩ | ⟨z9_0, rfl, rfl⟩ <;> exact (show ([h0, x4, e0, e1] : List Nat) = [h0, x4, e0, e1] from rfl)) (fun _ _ h => h.elim) (fun _ _ h => h.elim) (fun v u h => ?_)
        rcases h with ⟨c23, rfl, rfl⟩ | ⟨c24, rfl, rfl⟩ | ⟨c25, rfl, rfl⟩
        · exact absurd ((ePutK_v (show its < 1000000 by omega) hpn).symm.trans c23) (by rw [if_pos hR, if_neg hC]; decide)
        · refine jr_norm [(h0, .inr (9, [.ref x1, .ref x2, .ref x3, .ref x4, .ref x5, .ref x6, .int fi])), (x4, .inr (2, [.ref e0, .ref e1, .ref e2, .ref e3, .int (nI pn), .int (nI ht)])), (e0, .inl (t 0, 16, .inl KA)), (e1, .inl (t 0, 16, .inl DA)), (bg, .inl (t 0, 7, .inl (upd (upd g 4 (nI (pn + 0))) 5 (nI ht))))] [.int (-10)] 208 2 12 rfl rfl rfl rfl rfl ?_
          refine jr_iload CC (jd ddL_isPut 129 rfl) 2 rfl ?_
          refine jr_if_ne 218 CC (jd ddL_isPut 130 rfl) (by decide) (fun _ => ?_) (fun h => absurd h (by decide))
          refine jr_iload CC (jd ddL_isPut 133 rfl) 1 rfl ?_
          refine jr_if_eq 228 CC (jd ddL_isPut 134 rfl) (by decide) (fun _ => ?_) (fun h => absurd h (by decide))
          refine jr_bipush (v := (-10)) CC (jd ddL_isPut 137 rfl) (by decide) ?_
          refine jr_icmp_ne 237 CC (jd ddL_isPut 138 rfl) (by decide) (fun h => absurd h (fun h9 => h9 rfl)) (fun _ => ?_)
          refine jr_iconst (v := 1) CC (jd ddL_isPut 139 rfl) (by decide) ?_
          refine jr_goto 238 CC (jd ddL_isPut 140 rfl) (by decide) ?_
          exact jr_zret rfl CC MM (jd ddL_isPut 142 rfl) rfl (by decide) (by decide) ⟨pn, ht, KA, DA, (upd (upd g 4 (nI (pn + 0))) 5 (nI ht)), putP_of (by omega) (by omega) hDA rfl rfl, rfl, rfl⟩
        · exact absurd ((ePutK_v (show its < 1000000 by omega) hpn).symm.trans c25) (by rw [if_pos hR, if_neg hC]; decide)
      · have n17 := jle_not (a := 16) (b := pn) c17 (by omega) (by omega)
        refine jr_iload_n CC (jd ddL_isPut 64 rfl) 3 rfl ?_
        refine jr_iconst (v := 2) CC (jd ddL_isPut 65 rfl) (by decide) ?_
        refine jr_icmp_lt 122 CC (jd ddL_isPut 66 rfl) (by decide) (fun _ => ?_) (fun h => absurd h (by decide))
        exact absurd (by omega) hC
  · refine (Classical.em (pn < 16)).elim (fun hC => ?_) (fun hC => ?_)
    · refine jr_iload_n CC (jd ddL_isPut 23 rfl) 2 rfl ?_
      refine jr_if_ne 50 CC (jd ddL_isPut 24 rfl) (by decide) (fun _ => ?_) (fun h => absurd h (by decide))
      refine jr_iload_n CC (jd ddL_isPut 32 rfl) 2 rfl ?_
      refine jr_iconst (v := 1) CC (jd ddL_isPut 33 rfl) (by decide) ?_
      refine jr_icmp_ne 70 CC (jd ddL_isPut 34 rfl) (by decide) (fun h => absurd h (by decide)) (fun _ => ?_)
      refine jr_iload_n CC (jd ddL_isPut 35 rfl) 3 rfl ?_
      refine jr_sipush (v := 1001) CC (jd ddL_isPut 36 rfl) (by decide) ?_
      refine jr_pc (pc' := 59) rfl ?_
      refine jr_icmp_ge 66 CC (jd ddL_isPut 37 rfl) (by decide) (fun _ => ?_) (fun h => absurd (nI_le (a := 1001) (b := its) (by omega) (by omega)) h)
      refine jr_iconst (v := 0) CC (jd ddL_isPut 40 rfl) (by decide) ?_
      refine jr_goto 98 CC (jd ddL_isPut 41 rfl) (by decide) ?_
      refine jr_istore [(4, .int 0), (0, .ref h0), (1, .ref bg), (2, .int 1), (3, .int (nI its))] CC (jd ddL_isPut 58 rfl) (by decide) rfl ?_
      refine jr_aload_n CC (jd ddL_isPut 59 rfl) 2 rfl ?_
      refine jr_iconst (v := 4) CC (jd ddL_isPut 60 rfl) (by decide) ?_
      refine jr_ialdN CC (jd ddL_isPut 61 rfl) 4 4 rfl (by decide) (by decide) (by decide) ?_
      refine jr_st [.int (nI pn)] (jst1 hg4) ?_
      refine jr_bipush (v := 16) CC (jd ddL_isPut 62 rfl) (by decide) ?_
      refine jr_icmp_ge 126 CC (jd ddL_isPut 63 rfl) (by decide) (fun h => absurd h (nI_ge (a := pn) (b := 16) (by omega) (by decide))) (fun _ => ?_)
      refine jr_iload_n CC (jd ddL_isPut 64 rfl) 3 rfl ?_
      refine jr_iconst (v := 2) CC (jd ddL_isPut 65 rfl) (by decide) ?_
      refine jr_icmp_lt 122 CC (jd ddL_isPut 66 rfl) (by decide) (fun _ => ?_) (fun h => absurd h (by decide))
      refine jr_iconst (v := 1) CC (jd ddL_isPut 74 rfl) (by decide) ?_
      refine jr_pc (pc' := 123) rfl ?_
      refine jr_goto 127 CC (jd ddL_isPut 75 rfl) (by decide) ?_
      refine jr_istore [(5, .int 1), (4, .int 0), (0, .ref h0), (1, .ref bg), (2, .int 1), (3, .int (nI its))] CC (jd ddL_isPut 77 rfl) (by decide) rfl ?_
      refine jr_iload_n CC (jd ddL_isPut 78 rfl) 4 rfl ?_
      refine jr_iconst (v := 2) CC (jd ddL_isPut 79 rfl) (by decide) ?_
      refine jr_icmp_ge 142 CC (jd ddL_isPut 80 rfl) (by decide) (fun h => absurd h (by decide)) (fun _ => ?_)
      refine jr_aload_n CC (jd ddL_isPut 81 rfl) 3 rfl ?_
      refine jr_iconst (v := 5) CC (jd ddL_isPut 82 rfl) (by decide) ?_
      refine jr_ialdN CC (jd ddL_isPut 83 rfl) 4 5 rfl (by decide) (by decide) (by decide) ?_
      refine jr_st [.int (nI ht)] (jst1 hg5) ?_
      refine jr_iconst (v := 1) CC (jd ddL_isPut 84 rfl) (by decide) ?_
      refine jr_iadd CC (jd ddL_isPut 85 rfl) ?_
      refine jr_st [.int (nI (ht + 1))] (jst1 (nI_add ht 1)) ?_
      refine jr_goto 158 CC (jd ddL_isPut 86 rfl) (by decide) ?_
      refine jr_istore [(6, .int (nI (ht + 1))), (5, .int 1), (4, .int 0), (0, .ref h0), (1, .ref bg), (2, .int 1), (3, .int (nI its))] CC (jd ddL_isPut 99 rfl) (by decide) rfl ?_
      refine jr_aload_n CC (jd ddL_isPut 100 rfl) 4 rfl ?_
      refine jr_iconst (v := 4) CC (jd ddL_isPut 101 rfl) (by decide) ?_
      refine jr_dup2 CC (jd ddL_isPut 102 rfl) rfl rfl ?_
      refine jr_ialdN CC (jd ddL_isPut 103 rfl) 4 4 rfl (by decide) (by decide) (by decide) ?_
      refine jr_st [.int (nI pn), .int 4, .ref bg] (jst1 hg4) ?_
      refine jr_iload CC (jd ddL_isPut 104 rfl) 2 rfl ?_
      refine jr_if_eq 178 CC (jd ddL_isPut 105 rfl) (by decide) (fun _ => ?_) (fun h => absurd h (by decide))
      refine jr_iconst (v := 0) CC (jd ddL_isPut 110 rfl) (by decide) ?_
      refine jr_iadd CC (jd ddL_isPut 111 rfl) ?_
      refine jr_st [.int (nI (pn + 0)), .int 4, .ref bg] (jst1 (nI_add pn 0)) ?_
      refine jr_iastN CC (jd ddL_isPut 112 rfl) 4 4 rfl (by decide) (by decide) (by decide) ?_
      refine jr_pc (pc' := 181) rfl ?_
      refine jr_aload_n CC (jd ddL_isPut 113 rfl) 4 rfl ?_
      refine jr_iconst (v := 5) CC (jd ddL_isPut 114 rfl) (by decide) ?_
      refine jr_iload CC (jd ddL_isPut 115 rfl) 2 rfl ?_
      refine jr_if_eq 198 CC (jd ddL_isPut 116 rfl) (by decide) (fun _ => ?_) (fun h => absurd h (by decide))
      refine jr_aload_n CC (jd ddL_isPut 121 rfl) 4 rfl ?_
      refine jr_iconst (v := 5) CC (jd ddL_isPut 122 rfl) (by decide) ?_
      refine jr_ialdN CC (jd ddL_isPut 123 rfl) 4 5 rfl (by decide) (by decide) (by decide) ?_
      refine jr_st [.int (nI ht), .int 5, .ref bg] (jst1 ((pk_un (by decide)).trans hg5)) ?_
      refine jr_iastN CC (jd ddL_isPut 124 rfl) 4 5 rfl (by decide) (by decide) (by decide) ?_
      refine jr_aload_n CC (jd ddL_isPut 125 rfl) 3 rfl ?_
      refine jr_iload_n CC (jd ddL_isPut 126 rfl) 5 rfl ?_
      refine jr_pc (pc' := 204) rfl ?_
      refine jr_iload_n CC (jd ddL_isPut 127 rfl) 6 rfl ?_
      refine jr_callW (rest := []) [.ref h0, .int 1, .int (nI its)] CC (jd ddL_isPut 128 rfl) (jy_L_194 CC) (k_L_puts1 l t hfl h0 x1 x2 x3 x4 x5 x6 fi e0 e1 e2 e3 pn ht KA DA (nI its) hpn (by first | assumption | omega | decide)) [0, 1, 2, 3] rfl (by decide) rfl rfl (by decide) (Nat.le_of_ble_eq_true rfl) (by rintro v u h; rcases h with ⟨z9_0, rfl, rfl⟩ | ⟨z9_0, rfl, rfl⟩ | ⟨z9_0, rfl, rfl⟩ <;> exact (show ([h0, x4, e0, e1] : List Nat) = [h0, x4, e0, e1] from rfl)) (fun _ _ h => h.elim) (fun _ _ h => h.elim) (fun v u h => ?_)
      rcases h with ⟨c35, rfl, rfl⟩ | ⟨c36, rfl, rfl⟩ | ⟨c37, rfl, rfl⟩
      · refine jr_norm [(h0, .inr (9, [.ref x1, .ref x2, .ref x3, .ref x4, .ref x5, .ref x6, .int fi])), (x4, .inr (2, [.ref e0, .ref e1, .ref e2, .ref e3, .int (nI pn), .int (nI ht)])), (e0, .inl (t 0, 16, .inl KA)), (e1, .inl (t 0, 16, .inl DA)), (bg, .inl (t 0, 7, .inl (upd (upd g 4 (nI (pn + 0))) 5 (nI ht))))] [.int (-20)] 208 2 12 rfl rfl rfl rfl rfl ?_
        refine jr_iload CC (jd ddL_isPut 129 rfl) 2 rfl ?_
        refine jr_if_ne 218 CC (jd ddL_isPut 130 rfl) (by decide) (fun h => absurd h (by decide)) (fun _ => ?_)
        refine jr_bipush (v := (-20)) CC (jd ddL_isPut 131 rfl) (by decide) ?_
        refine jr_goto 230 CC (jd ddL_isPut 132 rfl) (by decide) ?_
        refine jr_icmp_ne 237 CC (jd ddL_isPut 138 rfl) (by decide) (fun h => absurd h (fun h9 => h9 rfl)) (fun _ => ?_)
        refine jr_iconst (v := 1) CC (jd ddL_isPut 139 rfl) (by decide) ?_
        refine jr_goto 238 CC (jd ddL_isPut 140 rfl) (by decide) ?_
        exact jr_zret rfl CC MM (jd ddL_isPut 142 rfl) rfl (by decide) (by decide) ⟨pn, ht, KA, DA, (upd (upd g 4 (nI (pn + 0))) 5 (nI ht)), putP_of (by omega) (by omega) hDA rfl rfl, rfl, rfl⟩
      · exact absurd ((ePutK_v (show its < 1000000 by omega) hpn).symm.trans c36) (by rw [if_neg hR]; decide)
      · exact absurd ((ePutK_v (show its < 1000000 by omega) hpn).symm.trans c37) (by rw [if_neg hR]; decide)
    · refine jr_iload_n CC (jd ddL_isPut 23 rfl) 2 rfl ?_
      refine jr_if_ne 50 CC (jd ddL_isPut 24 rfl) (by decide) (fun _ => ?_) (fun h => absurd h (by decide))
      refine jr_iload_n CC (jd ddL_isPut 32 rfl) 2 rfl ?_
      refine jr_iconst (v := 1) CC (jd ddL_isPut 33 rfl) (by decide) ?_
      refine jr_icmp_ne 70 CC (jd ddL_isPut 34 rfl) (by decide) (fun h => absurd h (by decide)) (fun _ => ?_)
      refine jr_iload_n CC (jd ddL_isPut 35 rfl) 3 rfl ?_
      refine jr_sipush (v := 1001) CC (jd ddL_isPut 36 rfl) (by decide) ?_
      refine jr_pc (pc' := 59) rfl ?_
      refine jr_icmp_ge 66 CC (jd ddL_isPut 37 rfl) (by decide) (fun _ => ?_) (fun h => absurd (nI_le (a := 1001) (b := its) (by omega) (by omega)) h)
      refine jr_iconst (v := 0) CC (jd ddL_isPut 40 rfl) (by decide) ?_
      refine jr_goto 98 CC (jd ddL_isPut 41 rfl) (by decide) ?_
      refine jr_istore [(4, .int 0), (0, .ref h0), (1, .ref bg), (2, .int 1), (3, .int (nI its))] CC (jd ddL_isPut 58 rfl) (by decide) rfl ?_
      refine jr_aload_n CC (jd ddL_isPut 59 rfl) 2 rfl ?_
      refine jr_iconst (v := 4) CC (jd ddL_isPut 60 rfl) (by decide) ?_
      refine jr_ialdN CC (jd ddL_isPut 61 rfl) 4 4 rfl (by decide) (by decide) (by decide) ?_
      refine jr_st [.int (nI pn)] (jst1 hg4) ?_
      refine jr_bipush (v := 16) CC (jd ddL_isPut 62 rfl) (by decide) ?_
      refine jr_icmp_ge 126 CC (jd ddL_isPut 63 rfl) (by decide) (fun c41 => ?_) (fun c41 => ?_)
      · have n41 := jle_of (a := 16) (b := pn) c41 (by omega) (by omega)
        refine jr_iconst (v := 0) CC (jd ddL_isPut 76 rfl) (by decide) ?_
        refine jr_istore [(5, .int 0), (4, .int 0), (0, .ref h0), (1, .ref bg), (2, .int 1), (3, .int (nI its))] CC (jd ddL_isPut 77 rfl) (by decide) rfl ?_
        refine jr_iload_n CC (jd ddL_isPut 78 rfl) 4 rfl ?_
        refine jr_iconst (v := 2) CC (jd ddL_isPut 79 rfl) (by decide) ?_
        refine jr_pc (pc' := 131) rfl ?_
        refine jr_icmp_ge 142 CC (jd ddL_isPut 80 rfl) (by decide) (fun h => absurd h (by decide)) (fun _ => ?_)
        refine jr_aload_n CC (jd ddL_isPut 81 rfl) 3 rfl ?_
        refine jr_iconst (v := 5) CC (jd ddL_isPut 82 rfl) (by decide) ?_
        refine jr_ialdN CC (jd ddL_isPut 83 rfl) 4 5 rfl (by decide) (by decide) (by decide) ?_
        refine jr_st [.int (nI ht)] (jst1 hg5) ?_
        refine jr_iconst (v := 1) CC (jd ddL_isPut 84 rfl) (by decide) ?_
        refine jr_iadd CC (jd ddL_isPut 85 rfl) ?_
        refine jr_st [.int (nI (ht + 1))] (jst1 (nI_add ht 1)) ?_
        refine jr_goto 158 CC (jd ddL_isPut 86 rfl) (by decide) ?_
        refine jr_istore [(6, .int (nI (ht + 1))), (5, .int 0), (4, .int 0), (0, .ref h0), (1, .ref bg), (2, .int 1), (3, .int (nI its))] CC (jd ddL_isPut 99 rfl) (by decide) rfl ?_
        refine jr_aload_n CC (jd ddL_isPut 100 rfl) 4 rfl ?_
        refine jr_iconst (v := 4) CC (jd ddL_isPut 101 rfl) (by decide) ?_
        refine jr_dup2 CC (jd ddL_isPut 102 rfl) rfl rfl ?_
        refine jr_ialdN CC (jd ddL_isPut 103 rfl) 4 4 rfl (by decide) (by decide) (by decide) ?_
        refine jr_st [.int (nI pn), .int 4, .ref bg] (jst1 hg4) ?_
        refine jr_iload CC (jd ddL_isPut 104 rfl) 2 rfl ?_
        refine jr_if_eq 178 CC (jd ddL_isPut 105 rfl) (by decide) (fun _ => ?_) (fun h => absurd h (by decide))
        refine jr_iconst (v := 0) CC (jd ddL_isPut 110 rfl) (by decide) ?_
        refine jr_iadd CC (jd ddL_isPut 111 rfl) ?_
        refine jr_st [.int (nI (pn + 0)), .int 4, .ref bg] (jst1 (nI_add pn 0)) ?_
        refine jr_iastN CC (jd ddL_isPut 112 rfl) 4 4 rfl (by decide) (by decide) (by decide) ?_
        refine jr_pc (pc' := 181) rfl ?_
        refine jr_aload_n CC (jd ddL_isPut 113 rfl) 4 rfl ?_
        refine jr_iconst (v := 5) CC (jd ddL_isPut 114 rfl) (by decide) ?_
        refine jr_iload CC (jd ddL_isPut 115 rfl) 2 rfl ?_
        refine jr_if_eq 198 CC (jd ddL_isPut 116 rfl) (by decide) (fun _ => ?_) (fun h => absurd h (by decide))
        refine jr_aload_n CC (jd ddL_isPut 121 rfl) 4 rfl ?_
        refine jr_iconst (v := 5) CC (jd ddL_isPut 122 rfl) (by decide) ?_
        refine jr_ialdN CC (jd ddL_isPut 123 rfl) 4 5 rfl (by decide) (by decide) (by decide) ?_
        refine jr_st [.int (nI ht), .int 5, .ref bg] (jst1 ((pk_un (by decide)).trans hg5)) ?_
        refine jr_iastN CC (jd ddL_isPut 124 rfl) 4 5 rfl (by decide) (by decide) (by decide) ?_
        refine jr_aload_n CC (jd ddL_isPut 125 rfl) 3 rfl ?_
        refine jr_iload_n CC (jd ddL_isPut 126 rfl) 5 rfl ?_
        refine jr_pc (pc' := 204) rfl ?_
        refine jr_iload_n CC (jd ddL_isPut 127 rfl) 6 rfl ?_
        refine jr_callW (rest := []) [.ref h0, .int 1, .int (nI its)] CC (jd ddL_isPut 128 rfl) (jy_L_194 CC) (k_L_puts1 l t hfl h0 x1 x2 x3 x4 x5 x6 fi e0 e1 e2 e3 pn ht KA DA (nI its) hpn (by first | assumption | omega | decide)) [0, 1, 2, 3] rfl (by decide) rfl rfl (by decide) (Nat.le_of_ble_eq_true rfl) (by rintro v u h; rcases h with ⟨z9_0, rfl, rfl⟩ | ⟨z9_0, rfl, rfl⟩ | ⟨z9_0, rfl, rfl⟩ <;> exact (show ([h0, x4, e0, e1] : List Nat) = [h0, x4, e0, e1] from rfl)) (fun _ _ h => h.elim) (fun _ _ h => h.elim) (fun v u h => ?_)
        rcases h with ⟨c45, rfl, rfl⟩ | ⟨c46, rfl, rfl⟩ | ⟨c47, rfl, rfl⟩
        · refine jr_norm [(h0, .inr (9, [.ref x1, .ref x2, .ref x3, .ref x4, .ref x5, .ref x6, .int fi])), (x4, .inr (2, [.ref e0, .ref e1, .ref e2, .ref e3, .int (nI pn), .int (nI ht)])), (e0, .inl (t 0, 16, .inl KA)), (e1, .inl (t 0, 16, .inl DA)), (bg, .inl (t 0, 7, .inl (upd (upd g 4 (nI (pn + 0))) 5 (nI ht))))] [.int (-20)] 208 2 12 rfl rfl rfl rfl rfl ?_
          refine jr_iload CC (jd ddL_isPut 129 rfl) 2 rfl ?_
          refine jr_if_ne 218 CC (jd ddL_isPut 130 rfl) (by decide) (fun h => absurd h (by decide)) (fun _ => ?_)
          refine jr_bipush (v := (-20)) CC (jd ddL_isPut 131 rfl) (by decide) ?_
          refine jr_goto 230 CC (jd ddL_isPut 132 rfl) (by decide) ?_
          refine jr_icmp_ne 237 CC (jd ddL_isPut 138 rfl) (by decide) (fun h => absurd h (fun h9 => h9 rfl)) (fun _ => ?_)
          refine jr_iconst (v := 1) CC (jd ddL_isPut 139 rfl) (by decide) ?_
          refine jr_goto 238 CC (jd ddL_isPut 140 rfl) (by decide) ?_
          exact jr_zret rfl CC MM (jd ddL_isPut 142 rfl) rfl (by decide) (by decide) ⟨pn, ht, KA, DA, (upd (upd g 4 (nI (pn + 0))) 5 (nI ht)), putP_of (by omega) (by omega) hDA rfl rfl, rfl, rfl⟩
        · exact absurd ((ePutK_v (show its < 1000000 by omega) hpn).symm.trans c46) (by rw [if_neg hR]; decide)
        · exact absurd ((ePutK_v (show its < 1000000 by omega) hpn).symm.trans c47) (by rw [if_neg hR]; decide)
      · have n41 := jle_not (a := 16) (b := pn) c41 (by omega) (by omega)
        refine jr_iload_n CC (jd ddL_isPut 64 rfl) 3 rfl ?_
        refine jr_iconst (v := 2) CC (jd ddL_isPut 65 rfl) (by decide) ?_
        refine jr_icmp_lt 122 CC (jd ddL_isPut 66 rfl) (by decide) (fun _ => ?_) (fun h => absurd h (by decide))
        exact absurd (by omega) hC
set_option maxHeartbeats 8000000 in
set_option maxRecDepth 100000 in
theorem k_L_isPut2 (l : Launch) (t : Nat → ClassId) (hfl : l.stackTraces = false) (h0 : Nat) (x1 : Nat) (x2 : Nat) (x3 : Nat) (x4 : Nat) (x5 : Nat) (x6 : Nat) (fi : Int32) (e0 : Nat) (e1 : Nat) (e2 : Nat) (e3 : Nat) (pn : Nat) (ht : Nat) (KA : Nat → Int32) (DA : Nat → Int32) (bg : Nat) (g : Nat → Int32) (its : Nat) (hpn : pn ≤ 16) (hht : ht ≤ pn) (hDA : ∀ z, z < pn → i6 (DA z)) (hg4 : g 4 = nI pn) (hg5 : g 5 = nI ht) (hits : its < 1200) : jKx l t yL_isPut (Cond.code yL_isPut cL_isPut 7 (some .boolean) :: jWS) { frames := 9, cells := 3, slots := 18, locals := 148 } [.ref h0, .ref bg, .int 2, .int (nI its)] [(h0, .inr (9, [.ref x1, .ref x2, .ref x3, .ref x4, .ref x5, .ref x6, .int fi])), (x4, .inr (2, [.ref e0, .ref e1, .ref e2, .ref e3, .int (nI pn), .int (nI ht)])), (e0, .inl (t 0, 16, .inl KA)), (e1, .inl (t 0, 16, .inl DA)), (bg, .inl (t 0, 7, .inl g))] (fun vv uu => (∃ pn9 : Nat, ∃ ht9 : Nat, ∃ KA9 : Nat → Int32, ∃ DA9 : Nat → Int32, ∃ g9 : Nat → Int32, (putP pn9 ht9 g DA9 g9) ∧ vv = some (.int 1) ∧ uu = [(h0, .inr (9, [.ref x1, .ref x2, .ref x3, .ref x4, .ref x5, .ref x6, .int fi])), (x4, .inr (2, [.ref e0, .ref e1, .ref e2, .ref e3, .int (nI pn9), .int (nI ht9)])), (e0, .inl (t 0, 16, .inl KA9)), (e1, .inl (t 0, 16, .inl DA9)), (bg, .inl (t 0, 7, .inl g9))])) (fun _ _ => False) := by
  refine jK_of hfl (by decide +kernel) (Nat.le_of_ble_eq_true rfl) ?_
  intro p e s m args below meth c D A Q CC MM
  refine jr_norm0 [(0, .ref h0), (1, .ref bg), (2, .int 2), (3, .int (nI its))] rfl ?_
  refine jr_iload_n CC (jd ddL_isPut 0 rfl) 2 rfl ?_
  refine jr_iconst (v := 4) CC (jd ddL_isPut 1 rfl) (by decide) ?_
  refine jr_icmp_ne 33 CC (jd ddL_isPut 2 rfl) (by decide) (fun _ => ?_) (fun h => absurd h (by decide))
  refine (Classical.em (its < 4)).elim (fun hR => ?_) (fun hR => ?_)
  · refine (Classical.em (pn < 16 ∧ 1 ≤ ht)).elim (fun hC => ?_) (fun hC => ?_)
    · refine jr_iload_n CC (jd ddL_isPut 23 rfl) 2 rfl ?_
      refine jr_if_ne 50 CC (jd ddL_isPut 24 rfl) (by decide) (fun _ => ?_) (fun h => absurd h (by decide))
      refine jr_iload_n CC (jd ddL_isPut 32 rfl) 2 rfl ?_
      refine jr_iconst (v := 1) CC (jd ddL_isPut 33 rfl) (by decide) ?_
      refine jr_icmp_ne 70 CC (jd ddL_isPut 34 rfl) (by decide) (fun _ => ?_) (fun h => absurd h (by decide))
      refine jr_iload_n CC (jd ddL_isPut 42 rfl) 2 rfl ?_
      refine jr_iconst (v := 2) CC (jd ddL_isPut 43 rfl) (by decide) ?_
      refine jr_pc (pc' := 72) rfl ?_
      refine jr_icmp_ne 88 CC (jd ddL_isPut 44 rfl) (by decide) (fun h => absurd h (by decide)) (fun _ => ?_)
      refine jr_iload_n CC (jd ddL_isPut 45 rfl) 3 rfl ?_
      refine jr_iconst (v := 4) CC (jd ddL_isPut 46 rfl) (by decide) ?_
      refine jr_icmp_ge 84 CC (jd ddL_isPut 47 rfl) (by decide) (fun h => absurd h (nI_ge (a := its) (b := 4) hR (by decide))) (fun _ => ?_)
      refine jr_iconst (v := 1) CC (jd ddL_isPut 48 rfl) (by decide) ?_
      refine jr_goto 98 CC (jd ddL_isPut 49 rfl) (by decide) ?_
      refine jr_istore [(4, .int 1), (0, .ref h0), (1, .ref bg), (2, .int 2), (3, .int (nI its))] CC (jd ddL_isPut 58 rfl) (by decide) rfl ?_
      refine jr_aload_n CC (jd ddL_isPut 59 rfl) 2 rfl ?_
      refine jr_iconst (v := 4) CC (jd ddL_isPut 60 rfl) (by decide) ?_
      refine jr_ialdN CC (jd ddL_isPut 61 rfl) 4 4 rfl (by decide) (by decide) (by decide) ?_
      refine jr_st [.int (nI pn)] (jst1 hg4) ?_
      refine jr_bipush (v := 16) CC (jd ddL_isPut 62 rfl) (by decide) ?_
      refine jr_icmp_ge 126 CC (jd ddL_isPut 63 rfl) (by decide) (fun h => absurd h (nI_ge (a := pn) (b := 16) (by omega) (by decide))) (fun _ => ?_)
      refine jr_iload_n CC (jd ddL_isPut 64 rfl) 3 rfl ?_
      refine jr_iconst (v := 2) CC (jd ddL_isPut 65 rfl) (by decide) ?_
      refine jr_icmp_lt 122 CC (jd ddL_isPut 66 rfl) (by decide) (fun h => absurd h (by decide)) (fun _ => ?_)
      refine jr_aload_n CC (jd ddL_isPut 67 rfl) 2 rfl ?_
      refine jr_pc (pc' := 114) rfl ?_
      refine jr_iconst (v := 5) CC (jd ddL_isPut 68 rfl) (by decide) ?_
      refine jr_ialdN CC (jd ddL_isPut 69 rfl) 4 5 rfl (by decide) (by decide) (by decide) ?_
      refine jr_st [.int (nI ht)] (jst1 hg5) ?_
      refine jr_iload_n CC (jd ddL_isPut 70 rfl) 3 rfl ?_
      refine jr_iconst (v := 2) CC (jd ddL_isPut 71 rfl) (by decide) ?_
      refine jr_isub CC (jd ddL_isPut 72 rfl) ?_
      refine jr_st [.int 0, .int (nI ht)] (by rfl) ?_
      refine jr_icmp_le 126 CC (jd ddL_isPut 73 rfl) (by decide) (fun h => absurd h (nI_ge (a := 0) (b := ht) (by omega) (by omega))) (fun _ => ?_)
      refine jr_iconst (v := 1) CC (jd ddL_isPut 74 rfl) (by decide) ?_
      refine jr_goto 127 CC (jd ddL_isPut 75 rfl) (by decide) ?_
      refine jr_istore [(5, .int 1), (4, .int 1), (0, .ref h0), (1, .ref bg), (2, .int 2), (3, .int (nI its))] CC (jd ddL_isPut 77 rfl) (by decide) rfl ?_
      refine jr_iload_n CC (jd ddL_isPut 78 rfl) 4 rfl ?_
      refine jr_iconst (v := 2) CC (jd ddL_isPut 79 rfl) (by decide) ?_
      refine jr_icmp_ge 142 CC (jd ddL_isPut 80 rfl) (by decide) (fun _ => ?_) (fun h => absurd h (by decide))
      refine jr_iload_n CC (jd ddL_isPut 87 rfl) 4 rfl ?_
      refine jr_iconst (v := 2) CC (jd ddL_isPut 88 rfl) (by decide) ?_
      refine jr_icmp_ne 153 CC (jd ddL_isPut 89 rfl) (by decide) (fun h => absurd h (by decide)) (fun _ => ?_)
      refine jr_aload_n CC (jd ddL_isPut 90 rfl) 3 rfl ?_
      refine jr_iconst (v := 5) CC (jd ddL_isPut 91 rfl) (by decide) ?_
      refine jr_ialdN CC (jd ddL_isPut 92 rfl) 4 5 rfl (by decide) (by decide) (by decide) ?_
      refine jr_st [.int (nI ht)] (jst1 hg5) ?_
      refine jr_pc (pc' := 150) rfl ?_
      refine jr_goto 158 CC (jd ddL_isPut 93 rfl) (by decide) ?_
      refine jr_istore [(6, .int (nI ht)), (5, .int 1), (4, .int 1), (0, .ref h0), (1, .ref bg), (2, .int 2), (3, .int (nI its))] CC (jd ddL_isPut 99 rfl) (by decide) rfl ?_
      refine jr_aload_n CC (jd ddL_isPut 100 rfl) 4 rfl ?_
      refine jr_iconst (v := 4) CC (jd ddL_isPut 101 rfl) (by decide) ?_
      refine jr_dup2 CC (jd ddL_isPut 102 rfl) rfl rfl ?_
      refine jr_ialdN CC (jd ddL_isPut 103 rfl) 4 4 rfl (by decide) (by decide) (by decide) ?_
      refine jr_st [.int (nI pn), .int 4, .ref bg] (jst1 hg4) ?_
      refine jr_iload CC (jd ddL_isPut 104 rfl) 2 rfl ?_
      refine jr_if_eq 178 CC (jd ddL_isPut 105 rfl) (by decide) (fun h => absurd h (by decide)) (fun _ => ?_)
      refine jr_iload CC (jd ddL_isPut 106 rfl) 1 rfl ?_
      refine jr_if_eq 178 CC (jd ddL_isPut 107 rfl) (by decide) (fun h => absurd h (by decide)) (fun _ => ?_)
      refine jr_iconst (v := 1) CC (jd ddL_isPut 108 rfl) (by decide) ?_
      refine jr_pc (pc' := 175) rfl ?_
      refine jr_goto 179 CC (jd ddL_isPut 109 rfl) (by decide) ?_
      refine jr_iadd CC (jd ddL_isPut 111 rfl) ?_
      refine jr_st [.int (nI (pn + 1)), .int 4, .ref bg] (jst1 (nI_add pn 1)) ?_
      refine jr_iastN CC (jd ddL_isPut 112 rfl) 4 4 rfl (by decide) (by decide) (by decide) ?_
      refine jr_aload_n CC (jd ddL_isPut 113 rfl) 4 rfl ?_
      refine jr_iconst (v := 5) CC (jd ddL_isPut 114 rfl) (by decide) ?_
      refine jr_iload CC (jd ddL_isPut 115 rfl) 2 rfl ?_
      refine jr_if_eq 198 CC (jd ddL_isPut 116 rfl) (by decide) (fun h => absurd h (by decide)) (fun _ => ?_)
      refine jr_iload CC (jd ddL_isPut 117 rfl) 1 rfl ?_
      refine jr_if_eq 198 CC (jd ddL_isPut 118 rfl) (by decide) (fun h => absurd h (by decide)) (fun _ => ?_)
      refine jr_iload CC (jd ddL_isPut 119 rfl) 0 rfl ?_
      refine jr_goto 201 CC (jd ddL_isPut 120 rfl) (by decide) ?_
      refine jr_iastN CC (jd ddL_isPut 124 rfl) 4 5 rfl (by decide) (by decide) (by decide) ?_
      refine jr_aload_n CC (jd ddL_isPut 125 rfl) 3 rfl ?_
      refine jr_iload_n CC (jd ddL_isPut 126 rfl) 5 rfl ?_
      refine jr_iload_n CC (jd ddL_isPut 127 rfl) 6 rfl ?_
      refine jr_callW (rest := []) [.ref h0, .int 2, .int (nI its)] CC (jd ddL_isPut 128 rfl) (jy_L_194 CC) (k_L_puts2 l t hfl h0 x1 x2 x3 x4 x5 x6 fi e0 e1 e2 e3 pn ht KA DA (nI its) hpn (by first | assumption | omega | decide)) [0, 1, 2, 3] rfl (by decide) rfl rfl (by decide) (Nat.le_of_ble_eq_true rfl) (by rintro v u h; rcases h with ⟨z9_0, rfl, rfl⟩ | ⟨z9_0, rfl, rfl⟩ | ⟨z9_0, rfl, rfl⟩ <;> exact (show ([h0, x4, e0, e1] : List Nat) = [h0, x4, e0, e1] from rfl)) (fun _ _ h => h.elim) (fun _ _ h => h.elim) (fun v u h => ?_)
      rcases h with ⟨c12, rfl, rfl⟩ | ⟨c13, rfl, rfl⟩ | ⟨c14, rfl, rfl⟩
      · exact absurd ((eApply_v (show its < 1000000 by omega) hpn (show ht ≤ 16 by omega)).symm.trans c12) (by rw [if_pos hR, if_pos hC.1, if_pos hC.2]; decide)
      · exact absurd ((eApply_v (show its < 1000000 by omega) hpn (show ht ≤ 16 by omega)).symm.trans c13) (by rw [if_pos hR, if_pos hC.1, if_pos hC.2]; decide)
      · refine jr_norm [(h0, .inr (9, [.ref x1, .ref x2, .ref x3, .ref x4, .ref x5, .ref x6, .int fi])), (x4, .inr (2, [.ref e0, .ref e1, .ref e2, .ref e3, .int (nI (pn + 1)), .int (nI ht)])), (e0, .inl (t 0, 16, .inl (upd KA pn 2))), (e1, .inl (t 0, 16, .inl (upd DA pn (nI its)))), (bg, .inl (t 0, 7, .inl (upd (upd g 4 (nI (pn + 1))) 5 (nI ht))))] [.int (nI ht)] 208 3 18 rfl rfl rfl rfl rfl ?_
        refine jr_iload CC (jd ddL_isPut 129 rfl) 2 rfl ?_
        refine jr_if_ne 218 CC (jd ddL_isPut 130 rfl) (by decide) (fun _ => ?_) (fun h => absurd h (by decide))
        refine jr_iload CC (jd ddL_isPut 133 rfl) 1 rfl ?_
        refine jr_if_eq 228 CC (jd ddL_isPut 134 rfl) (by decide) (fun h => absurd h (by decide)) (fun _ => ?_)
        refine jr_iload CC (jd ddL_isPut 135 rfl) 0 rfl ?_
        refine jr_goto 230 CC (jd ddL_isPut 136 rfl) (by decide) ?_
        refine jr_icmp_ne 237 CC (jd ddL_isPut 138 rfl) (by decide) (fun h => absurd h (fun h9 => h9 rfl)) (fun _ => ?_)
        refine jr_iconst (v := 1) CC (jd ddL_isPut 139 rfl) (by decide) ?_
        refine jr_goto 238 CC (jd ddL_isPut 140 rfl) (by decide) ?_
        exact jr_zret rfl CC MM (jd ddL_isPut 142 rfl) rfl (by decide) (by decide) ⟨(pn + 1), ht, (upd KA pn 2), (upd DA pn (nI its)), (upd (upd g 4 (nI (pn + 1))) 5 (nI ht)), putP_of (by omega) (by omega) (putP_D hDA (by omega)) rfl rfl, rfl, rfl⟩
    · refine jr_iload_n CC (jd ddL_isPut 23 rfl) 2 rfl ?_
      refine jr_if_ne 50 CC (jd ddL_isPut 24 rfl) (by decide) (fun _ => ?_) (fun h => absurd h (by decide))
      refine jr_iload_n CC (jd ddL_isPut 32 rfl) 2 rfl ?_
      refine jr_iconst (v := 1) CC (jd ddL_isPut 33 rfl) (by decide) ?_
      refine jr_icmp_ne 70 CC (jd ddL_isPut 34 rfl) (by decide) (fun _ => ?_) (fun h => absurd h (by decide))
      refine jr_iload_n CC (jd ddL_isPut 42 rfl) 2 rfl ?_
      refine jr_iconst (v := 2) CC (jd ddL_isPut 43 rfl) (by decide) ?_
      refine jr_pc (pc' := 72) rfl ?_
      refine jr_icmp_ne 88 CC (jd ddL_isPut 44 rfl) (by decide) (fun h => absurd h (by decide)) (fun _ => ?_)
      refine jr_iload_n CC (jd ddL_isPut 45 rfl) 3 rfl ?_
      refine jr_iconst (v := 4) CC (jd ddL_isPut 46 rfl) (by decide) ?_
      refine jr_icmp_ge 84 CC (jd ddL_isPut 47 rfl) (by decide) (fun h => absurd h (nI_ge (a := its) (b := 4) hR (by decide))) (fun _ => ?_)
      refine jr_iconst (v := 1) CC (jd ddL_isPut 48 rfl) (by decide) ?_
      refine jr_goto 98 CC (jd ddL_isPut 49 rfl) (by decide) ?_
      refine jr_istore [(4, .int 1), (0, .ref h0), (1, .ref bg), (2, .int 2), (3, .int (nI its))] CC (jd ddL_isPut 58 rfl) (by decide) rfl ?_
      refine jr_aload_n CC (jd ddL_isPut 59 rfl) 2 rfl ?_
      refine jr_iconst (v := 4) CC (jd ddL_isPut 60 rfl) (by decide) ?_
      refine jr_ialdN CC (jd ddL_isPut 61 rfl) 4 4 rfl (by decide) (by decide) (by decide) ?_
      refine jr_st [.int (nI pn)] (jst1 hg4) ?_
      refine jr_bipush (v := 16) CC (jd ddL_isPut 62 rfl) (by decide) ?_
      refine jr_icmp_ge 126 CC (jd ddL_isPut 63 rfl) (by decide) (fun c20 => ?_) (fun c20 => ?_)
      · have n20 := jle_of (a := 16) (b := pn) c20 (by omega) (by omega)
        refine jr_iconst (v := 0) CC (jd ddL_isPut 76 rfl) (by decide) ?_
        refine jr_istore [(5, .int 0), (4, .int 1), (0, .ref h0), (1, .ref bg), (2, .int 2), (3, .int (nI its))] CC (jd ddL_isPut 77 rfl) (by decide) rfl ?_
        refine jr_iload_n CC (jd ddL_isPut 78 rfl) 4 rfl ?_
        refine jr_iconst (v := 2) CC (jd ddL_isPut 79 rfl) (by decide) ?_
        refine jr_pc (pc' := 131) rfl ?_
        refine jr_icmp_ge 142 CC (jd ddL_isPut 80 rfl) (by decide) (fun _ => ?_) (fun h => absurd h (by decide))
        refine jr_iload_n CC (jd ddL_isPut 87 rfl) 4 rfl ?_
        refine jr_iconst (v := 2) CC (jd ddL_isPut 88 rfl) (by decide) ?_
        refine jr_icmp_ne 153 CC (jd ddL_isPut 89 rfl) (by decide) (fun h => absurd h (by decide)) (fun _ => ?_)
        refine jr_aload_n CC (jd ddL_isPut 90 rfl) 3 rfl ?_
        refine jr_iconst (v := 5) CC (jd ddL_isPut 91 rfl) (by decide) ?_
        refine jr_ialdN CC (jd ddL_isPut 92 rfl) 4 5 rfl (by decide) (by decide) (by decide) ?_
        refine jr_st [.int (nI ht)] (jst1 hg5) ?_
        refine jr_goto 158 CC (jd ddL_isPut 93 rfl) (by decide) ?_
        refine jr_istore [(6, .int (nI ht)), (5, .int 0), (4, .int 1), (0, .ref h0), (1, .ref bg), (2, .int 2), (3, .int (nI its))] CC (jd ddL_isPut 99 rfl) (by decide) rfl ?_
        refine jr_aload_n CC (jd ddL_isPut 100 rfl) 4 rfl ?_
        refine jr_iconst (v := 4) CC (jd ddL_isPut 101 rfl) (by decide) ?_
        refine jr_dup2 CC (jd ddL_isPut 102 rfl) rfl rfl ?_
        refine jr_ialdN CC (jd ddL_isPut 103 rfl) 4 4 rfl (by decide) (by decide) (by decide) ?_
        refine jr_st [.int (nI pn), .int 4, .ref bg] (jst1 hg4) ?_
        refine jr_iload CC (jd ddL_isPut 104 rfl) 2 rfl ?_
        refine jr_if_eq 178 CC (jd ddL_isPut 105 rfl) (by decide) (fun h => absurd h (by decide)) (fun _ => ?_)
        refine jr_iload CC (jd ddL_isPut 106 rfl) 1 rfl ?_
        refine jr_if_eq 178 CC (jd ddL_isPut 107 rfl) (by decide) (fun _ => ?_) (fun h => absurd h (by decide))
        refine jr_iconst (v := 0) CC (jd ddL_isPut 110 rfl) (by decide) ?_
        refine jr_pc (pc' := 179) rfl ?_
        refine jr_iadd CC (jd ddL_isPut 111 rfl) ?_
        refine jr_st [.int (nI (pn + 0)), .int 4, .ref bg] (jst1 (nI_add pn 0)) ?_
        refine jr_iastN CC (jd ddL_isPut 112 rfl) 4 4 rfl (by decide) (by decide) (by decide) ?_
        refine jr_aload_n CC (jd ddL_isPut 113 rfl) 4 rfl ?_
        refine jr_iconst (v := 5) CC (jd ddL_isPut 114 rfl) (by decide) ?_
        refine jr_iload CC (jd ddL_isPut 115 rfl) 2 rfl ?_
        refine jr_if_eq 198 CC (jd ddL_isPut 116 rfl) (by decide) (fun h => absurd h (by decide)) (fun _ => ?_)
        refine jr_iload CC (jd ddL_isPut 117 rfl) 1 rfl ?_
        refine jr_if_eq 198 CC (jd ddL_isPut 118 rfl) (by decide) (fun _ => ?_) (fun h => absurd h (by decide))
        refine jr_aload_n CC (jd ddL_isPut 121 rfl) 4 rfl ?_
        refine jr_iconst (v := 5) CC (jd ddL_isPut 122 rfl) (by decide) ?_
        refine jr_pc (pc' := 200) rfl ?_
        refine jr_ialdN CC (jd ddL_isPut 123 rfl) 4 5 rfl (by decide) (by decide) (by decide) ?_
        refine jr_st [.int (nI ht), .int 5, .ref bg] (jst1 ((pk_un (by decide)).trans hg5)) ?_
        refine jr_iastN CC (jd ddL_isPut 124 rfl) 4 5 rfl (by decide) (by decide) (by decide) ?_
        refine jr_aload_n CC (jd ddL_isPut 125 rfl) 3 rfl ?_
        refine jr_iload_n CC (jd ddL_isPut 126 rfl) 5 rfl ?_
        refine jr_iload_n CC (jd ddL_isPut 127 rfl) 6 rfl ?_
        refine jr_callW (rest := []) [.ref h0, .int 2, .int (nI its)] CC (jd ddL_isPut 128 rfl) (jy_L_194 CC) (k_L_puts2 l t hfl h0 x1 x2 x3 x4 x5 x6 fi e0 e1 e2 e3 pn ht KA DA (nI its) hpn (by first | assumption | omega | decide)) [0, 1, 2, 3] rfl (by decide) rfl rfl (by decide) (Nat.le_of_ble_eq_true rfl) (by rintro v u h; rcases h with ⟨z9_0, rfl, rfl⟩ | ⟨z9_0, rfl, rfl⟩ | ⟨z9_0, rfl, rfl⟩ <;> exact (show ([h0, x4, e0, e1] : List Nat) = [h0, x4, e0, e1] from rfl)) (fun _ _ h => h.elim) (fun _ _ h => h.elim) (fun v u h => ?_)
        rcases h with ⟨c27, rfl, rfl⟩ | ⟨c28, rfl, rfl⟩ | ⟨c29, rfl, rfl⟩
        · exact absurd ((eApply_v (show its < 1000000 by omega) hpn (show ht ≤ 16 by omega)).symm.trans c27) (by rw [if_pos hR, if2 hC]; decide)
        · refine jr_norm [(h0, .inr (9, [.ref x1, .ref x2, .ref x3, .ref x4, .ref x5, .ref x6, .int fi])), (x4, .inr (2, [.ref e0, .ref e1, .ref e2, .ref e3, .int (nI pn), .int (nI ht)])), (e0, .inl (t 0, 16, .inl KA)), (e1, .inl (t 0, 16, .inl DA)), (bg, .inl (t 0, 7, .inl (upd (upd g 4 (nI (pn + 0))) 5 (nI ht))))] [.int (-10)] 208 3 18 rfl rfl rfl rfl rfl ?_
          refine jr_iload CC (jd ddL_isPut 129 rfl) 2 rfl ?_
          refine jr_if_ne 218 CC (jd ddL_isPut 130 rfl) (by decide) (fun _ => ?_) (fun h => absurd h (by decide))
          refine jr_iload CC (jd ddL_isPut 133 rfl) 1 rfl ?_
          refine jr_if_eq 228 CC (jd ddL_isPut 134 rfl) (by decide) (fun _ => ?_) (fun h => absurd h (by decide))
          refine jr_bipush (v := (-10)) CC (jd ddL_isPut 137 rfl) (by decide) ?_
          refine jr_icmp_ne 237 CC (jd ddL_isPut 138 rfl) (by decide) (fun h => absurd h (fun h9 => h9 rfl)) (fun _ => ?_)
          refine jr_iconst (v := 1) CC (jd ddL_isPut 139 rfl) (by decide) ?_
          refine jr_goto 238 CC (jd ddL_isPut 140 rfl) (by decide) ?_
          exact jr_zret rfl CC MM (jd ddL_isPut 142 rfl) rfl (by decide) (by decide) ⟨pn, ht, KA, DA, (upd (upd g 4 (nI (pn + 0))) 5 (nI ht)), putP_of (by omega) (by omega) hDA rfl rfl, rfl, rfl⟩
        · exact absurd ((eApply_v (show its < 1000000 by omega) hpn (show ht ≤ 16 by omega)).symm.trans c29) (by rw [if_pos hR, if2 hC]; decide)
      · have n20 := jle_not (a := 16) (b := pn) c20 (by omega) (by omega)
        refine jr_iload_n CC (jd ddL_isPut 64 rfl) 3 rfl ?_
        refine jr_iconst (v := 2) CC (jd ddL_isPut 65 rfl) (by decide) ?_
        refine jr_icmp_lt 122 CC (jd ddL_isPut 66 rfl) (by decide) (fun h => absurd h (by decide)) (fun _ => ?_)
        refine jr_aload_n CC (jd ddL_isPut 67 rfl) 2 rfl ?_
        refine jr_pc (pc' := 114) rfl ?_
        refine jr_iconst (v := 5) CC (jd ddL_isPut 68 rfl) (by decide) ?_
        refine jr_ialdN CC (jd ddL_isPut 69 rfl) 4 5 rfl (by decide) (by decide) (by decide) ?_
        refine jr_st [.int (nI ht)] (jst1 hg5) ?_
        refine jr_iload_n CC (jd ddL_isPut 70 rfl) 3 rfl ?_
        refine jr_iconst (v := 2) CC (jd ddL_isPut 71 rfl) (by decide) ?_
        refine jr_isub CC (jd ddL_isPut 72 rfl) ?_
        refine jr_st [.int 0, .int (nI ht)] (by rfl) ?_
        refine jr_icmp_le 126 CC (jd ddL_isPut 73 rfl) (by decide) (fun c33 => ?_) (fun c33 => ?_)
        · have n33 := jle_of (a := ht) (b := 0) c33 (by omega) (by omega)
          refine jr_iconst (v := 0) CC (jd ddL_isPut 76 rfl) (by decide) ?_
          refine jr_istore [(5, .int 0), (4, .int 1), (0, .ref h0), (1, .ref bg), (2, .int 2), (3, .int (nI its))] CC (jd ddL_isPut 77 rfl) (by decide) rfl ?_
          refine jr_iload_n CC (jd ddL_isPut 78 rfl) 4 rfl ?_
          refine jr_iconst (v := 2) CC (jd ddL_isPut 79 rfl) (by decide) ?_
          refine jr_pc (pc' := 131) rfl ?_
          refine jr_icmp_ge 142 CC (jd ddL_isPut 80 rfl) (by decide) (fun _ => ?_) (fun h => absurd h (by decide))
          refine jr_iload_n CC (jd ddL_isPut 87 rfl) 4 rfl ?_
          refine jr_iconst (v := 2) CC (jd ddL_isPut 88 rfl) (by decide) ?_
          refine jr_icmp_ne 153 CC (jd ddL_isPut 89 rfl) (by decide) (fun h => absurd h (by decide)) (fun _ => ?_)
          refine jr_aload_n CC (jd ddL_isPut 90 rfl) 3 rfl ?_
          refine jr_iconst (v := 5) CC (jd ddL_isPut 91 rfl) (by decide) ?_
          refine jr_ialdN CC (jd ddL_isPut 92 rfl) 4 5 rfl (by decide) (by decide) (by decide) ?_
          refine jr_st [.int (nI ht)] (jst1 hg5) ?_
          refine jr_goto 158 CC (jd ddL_isPut 93 rfl) (by decide) ?_
          refine jr_istore [(6, .int (nI ht)), (5, .int 0), (4, .int 1), (0, .ref h0), (1, .ref bg), (2, .int 2), (3, .int (nI its))] CC (jd ddL_isPut 99 rfl) (by decide) rfl ?_
          refine jr_aload_n CC (jd ddL_isPut 100 rfl) 4 rfl ?_
          refine jr_iconst (v := 4) CC (jd ddL_isPut 101 rfl) (by decide) ?_
          refine jr_dup2 CC (jd ddL_isPut 102 rfl) rfl rfl ?_
          refine jr_ialdN CC (jd ddL_isPut 103 rfl) 4 4 rfl (by decide) (by decide) (by decide) ?_
          refine jr_st [.int (nI pn), .int 4, .ref bg] (jst1 hg4) ?_
          refine jr_iload CC (jd ddL_isPut 104 rfl) 2 rfl ?_
          refine jr_if_eq 178 CC (jd ddL_isPut 105 rfl) (by decide) (fun h => absurd h (by decide)) (fun _ => ?_)
          refine jr_iload CC (jd ddL_isPut 106 rfl) 1 rfl ?_
          refine jr_if_eq 178 CC (jd ddL_isPut 107 rfl) (by decide) (fun _ => ?_) (fun h => absurd h (by decide))
          refine jr_iconst (v := 0) CC (jd ddL_isPut 110 rfl) (by decide) ?_
          refine jr_pc (pc' := 179) rfl ?_
          refine jr_iadd CC (jd ddL_isPut 111 rfl) ?_
          refine jr_st [.int (nI (pn + 0)), .int 4, .ref bg] (jst1 (nI_add pn 0)) ?_
          refine jr_iastN CC (jd ddL_isPut 112 rfl) 4 4 rfl (by decide) (by decide) (by decide) ?_
          refine jr_aload_n CC (jd ddL_isPut 113 rfl) 4 rfl ?_
          refine jr_iconst (v := 5) CC (jd ddL_isPut 114 rfl) (by decide) ?_
          refine jr_iload CC (jd ddL_isPut 115 rfl) 2 rfl ?_
          refine jr_if_eq 198 CC (jd ddL_isPut 116 rfl) (by decide) (fun h => absurd h (by decide)) (fun _ => ?_)
          refine jr_iload CC (jd ddL_isPut 117 rfl) 1 rfl ?_
          refine jr_if_eq 198 CC (jd ddL_isPut 118 rfl) (by decide) (fun _ => ?_) (fun h => absurd h (by decide))
          refine jr_aload_n CC (jd ddL_isPut 121 rfl) 4 rfl ?_
          refine jr_iconst (v := 5) CC (jd ddL_isPut 122 rfl) (by decide) ?_
          refine jr_pc (pc' := 200) rfl ?_
          refine jr_ialdN CC (jd ddL_isPut 123 rfl) 4 5 rfl (by decide) (by decide) (by decide) ?_
          refine jr_st [.int (nI ht), .int 5, .ref bg] (jst1 ((pk_un (by decide)).trans hg5)) ?_
          refine jr_iastN CC (jd ddL_isPut 124 rfl) 4 5 rfl (by decide) (by decide) (by decide) ?_
          refine jr_aload_n CC (jd ddL_isPut 125 rfl) 3 rfl ?_
          refine jr_iload_n CC (jd ddL_isPut 126 rfl) 5 rfl ?_
          refine jr_iload_n CC (jd ddL_isPut 127 rfl) 6 rfl ?_
          refine jr_callW (rest := []) [.ref h0, .int 2, .int (nI its)] CC (jd ddL_isPut 128 rfl) (jy_L_194 CC) (k_L_puts2 l t hfl h0 x1 x2 x3 x4 x5 x6 fi e0 e1 e2 e3 pn ht KA DA (nI its) hpn (by first | assumption | omega | decide)) [0, 1, 2, 3] rfl (by decide) rfl rfl (by decide) (Nat.le_of_ble_eq_true rfl) (by rintro v u h; rcases h with ⟨z9_0, rfl, rfl⟩ | ⟨z9_0, rfl, rfl⟩ | ⟨z9_0, rfl, rfl⟩ <;> exact (show ([h0, x4, e0, e1] : List Nat) = [h0, x4, e0, e1] from rfl)) (fun _ _ h => h.elim) (fun _ _ h => h.elim) (fun v u h => ?_)
          rcases h with ⟨c40, rfl, rfl⟩ | ⟨c41, rfl, rfl⟩ | ⟨c42, rfl, rfl⟩
          · exact absurd ((eApply_v (show its < 1000000 by omega) hpn (show ht ≤ 16 by omega)).symm.trans c40) (by rw [if_pos hR, if2 hC]; decide)
          · refine jr_norm [(h0, .inr (9, [.ref x1, .ref x2, .ref x3, .ref x4, .ref x5, .ref x6, .int fi])), (x4, .inr (2, [.ref e0, .ref e1, .ref e2, .ref e3, .int (nI pn), .int (nI ht)])), (e0, .inl (t 0, 16, .inl KA)), (e1, .inl (t 0, 16, .inl DA)), (bg, .inl (t 0, 7, .inl (upd (upd g 4 (nI (pn + 0))) 5 (nI ht))))] [.int (-10)] 208 3 18 rfl rfl rfl rfl rfl ?_
            refine jr_iload CC (jd ddL_isPut 129 rfl) 2 rfl ?_
            refine jr_if_ne 218 CC (jd ddL_isPut 130 rfl) (by decide) (fun _ => ?_) (fun h => absurd h (by decide))
            refine jr_iload CC (jd ddL_isPut 133 rfl) 1 rfl ?_
            refine jr_if_eq 228 CC (jd ddL_isPut 134 rfl) (by decide) (fun _ => ?_) (fun h => absurd h (by decide))
            refine jr_bipush (v := (-10)) CC (jd ddL_isPut 137 rfl) (by decide) ?_
            refine jr_icmp_ne 237 CC (jd ddL_isPut 138 rfl) (by decide) (fun h => absurd h (fun h9 => h9 rfl)) (fun _ => ?_)
            refine jr_iconst (v := 1) CC (jd ddL_isPut 139 rfl) (by decide) ?_
            refine jr_goto 238 CC (jd ddL_isPut 140 rfl) (by decide) ?_
            exact jr_zret rfl CC MM (jd ddL_isPut 142 rfl) rfl (by decide) (by decide) ⟨pn, ht, KA, DA, (upd (upd g 4 (nI (pn + 0))) 5 (nI ht)), putP_of (by omega) (by omega) hDA rfl rfl, rfl, rfl⟩
          · exact absurd ((eApply_v (show its < 1000000 by omega) hpn (show ht ≤ 16 by omega)).symm.trans c42) (by rw [if_pos hR, if2 hC]; decide)
        · have n33 := jle_not (a := ht) (b := 0) c33 (by omega) (by omega)
          exact absurd (⟨by omega, by omega⟩ : pn < 16 ∧ 1 ≤ ht) hC
  · refine (Classical.em (pn < 16 ∧ 1 ≤ ht)).elim (fun hC => ?_) (fun hC => ?_)
    · refine jr_iload_n CC (jd ddL_isPut 23 rfl) 2 rfl ?_
      refine jr_if_ne 50 CC (jd ddL_isPut 24 rfl) (by decide) (fun _ => ?_) (fun h => absurd h (by decide))
      refine jr_iload_n CC (jd ddL_isPut 32 rfl) 2 rfl ?_
      refine jr_iconst (v := 1) CC (jd ddL_isPut 33 rfl) (by decide) ?_
      refine jr_icmp_ne 70 CC (jd ddL_isPut 34 rfl) (by decide) (fun _ => ?_) (fun h => absurd h (by decide))
      refine jr_iload_n CC (jd ddL_isPut 42 rfl) 2 rfl ?_
      refine jr_iconst (v := 2) CC (jd ddL_isPut 43 rfl) (by decide) ?_
      refine jr_pc (pc' := 72) rfl ?_
      refine jr_icmp_ne 88 CC (jd ddL_isPut 44 rfl) (by decide) (fun h => absurd h (by decide)) (fun _ => ?_)
      refine jr_iload_n CC (jd ddL_isPut 45 rfl) 3 rfl ?_
      refine jr_iconst (v := 4) CC (jd ddL_isPut 46 rfl) (by decide) ?_
      refine jr_icmp_ge 84 CC (jd ddL_isPut 47 rfl) (by decide) (fun _ => ?_) (fun h => absurd (nI_le (a := 4) (b := its) (by omega) (by omega)) h)
      refine jr_iconst (v := 0) CC (jd ddL_isPut 50 rfl) (by decide) ?_
      refine jr_goto 98 CC (jd ddL_isPut 51 rfl) (by decide) ?_
      refine jr_istore [(4, .int 0), (0, .ref h0), (1, .ref bg), (2, .int 2), (3, .int (nI its))] CC (jd ddL_isPut 58 rfl) (by decide) rfl ?_
      refine jr_aload_n CC (jd ddL_isPut 59 rfl) 2 rfl ?_
      refine jr_iconst (v := 4) CC (jd ddL_isPut 60 rfl) (by decide) ?_
      refine jr_ialdN CC (jd ddL_isPut 61 rfl) 4 4 rfl (by decide) (by decide) (by decide) ?_
      refine jr_st [.int (nI pn)] (jst1 hg4) ?_
      refine jr_bipush (v := 16) CC (jd ddL_isPut 62 rfl) (by decide) ?_
      refine jr_icmp_ge 126 CC (jd ddL_isPut 63 rfl) (by decide) (fun h => absurd h (nI_ge (a := pn) (b := 16) (by omega) (by decide))) (fun _ => ?_)
      refine jr_iload_n CC (jd ddL_isPut 64 rfl) 3 rfl ?_
      refine jr_iconst (v := 2) CC (jd ddL_isPut 65 rfl) (by decide) ?_
      refine jr_icmp_lt 122 CC (jd ddL_isPut 66 rfl) (by decide) (fun h => absurd h (by decide)) (fun _ => ?_)
      refine jr_aload_n CC (jd ddL_isPut 67 rfl) 2 rfl ?_
      refine jr_pc (pc' := 114) rfl ?_
      refine jr_iconst (v := 5) CC (jd ddL_isPut 68 rfl) (by decide) ?_
      refine jr_ialdN CC (jd ddL_isPut 69 rfl) 4 5 rfl (by decide) (by decide) (by decide) ?_
      refine jr_st [.int (nI ht)] (jst1 hg5) ?_
      refine jr_iload_n CC (jd ddL_isPut 70 rfl) 3 rfl ?_
      refine jr_iconst (v := 2) CC (jd ddL_isPut 71 rfl) (by decide) ?_
      refine jr_isub CC (jd ddL_isPut 72 rfl) ?_
      refine jr_st [.int 0, .int (nI ht)] (by rfl) ?_
      refine jr_icmp_le 126 CC (jd ddL_isPut 73 rfl) (by decide) (fun h => absurd h (nI_ge (a := 0) (b := ht) (by omega) (by omega))) (fun _ => ?_)
      refine jr_iconst (v := 1) CC (jd ddL_isPut 74 rfl) (by decide) ?_
      refine jr_goto 127 CC (jd ddL_isPut 75 rfl) (by decide) ?_
      refine jr_istore [(5, .int 1), (4, .int 0), (0, .ref h0), (1, .ref bg), (2, .int 2), (3, .int (nI its))] CC (jd ddL_isPut 77 rfl) (by decide) rfl ?_
      refine jr_iload_n CC (jd ddL_isPut 78 rfl) 4 rfl ?_
      refine jr_iconst (v := 2) CC (jd ddL_isPut 79 rfl) (by decide) ?_
      refine jr_icmp_ge 142 CC (jd ddL_isPut 80 rfl) (by decide) (fun _ => ?_) (fun h => absurd h (by decide))
      refine jr_iload_n CC (jd ddL_isPut 87 rfl) 4 rfl ?_
      refine jr_iconst (v := 2) CC (jd ddL_isPut 88 rfl) (by decide) ?_
      refine jr_icmp_ne 153 CC (jd ddL_isPut 89 rfl) (by decide) (fun h => absurd h (by decide)) (fun _ => ?_)
      refine jr_aload_n CC (jd ddL_isPut 90 rfl) 3 rfl ?_
      refine jr_iconst (v := 5) CC (jd ddL_isPut 91 rfl) (by decide) ?_
      refine jr_ialdN CC (jd ddL_isPut 92 rfl) 4 5 rfl (by decide) (by decide) (by decide) ?_
      refine jr_st [.int (nI ht)] (jst1 hg5) ?_
      refine jr_pc (pc' := 150) rfl ?_
      refine jr_goto 158 CC (jd ddL_isPut 93 rfl) (by decide) ?_
      refine jr_istore [(6, .int (nI ht)), (5, .int 1), (4, .int 0), (0, .ref h0), (1, .ref bg), (2, .int 2), (3, .int (nI its))] CC (jd ddL_isPut 99 rfl) (by decide) rfl ?_
      refine jr_aload_n CC (jd ddL_isPut 100 rfl) 4 rfl ?_
      refine jr_iconst (v := 4) CC (jd ddL_isPut 101 rfl) (by decide) ?_
      refine jr_dup2 CC (jd ddL_isPut 102 rfl) rfl rfl ?_
      refine jr_ialdN CC (jd ddL_isPut 103 rfl) 4 4 rfl (by decide) (by decide) (by decide) ?_
      refine jr_st [.int (nI pn), .int 4, .ref bg] (jst1 hg4) ?_
      refine jr_iload CC (jd ddL_isPut 104 rfl) 2 rfl ?_
      refine jr_if_eq 178 CC (jd ddL_isPut 105 rfl) (by decide) (fun _ => ?_) (fun h => absurd h (by decide))
      refine jr_iconst (v := 0) CC (jd ddL_isPut 110 rfl) (by decide) ?_
      refine jr_iadd CC (jd ddL_isPut 111 rfl) ?_
      refine jr_st [.int (nI (pn + 0)), .int 4, .ref bg] (jst1 (nI_add pn 0)) ?_
      refine jr_iastN CC (jd ddL_isPut 112 rfl) 4 4 rfl (by decide) (by decide) (by decide) ?_
      refine jr_pc (pc' := 181) rfl ?_
      refine jr_aload_n CC (jd ddL_isPut 113 rfl) 4 rfl ?_
      refine jr_iconst (v := 5) CC (jd ddL_isPut 114 rfl) (by decide) ?_
      refine jr_iload CC (jd ddL_isPut 115 rfl) 2 rfl ?_
      refine jr_if_eq 198 CC (jd ddL_isPut 116 rfl) (by decide) (fun _ => ?_) (fun h => absurd h (by decide))
      refine jr_aload_n CC (jd ddL_isPut 121 rfl) 4 rfl ?_
      refine jr_iconst (v := 5) CC (jd ddL_isPut 122 rfl) (by decide) ?_
      refine jr_ialdN CC (jd ddL_isPut 123 rfl) 4 5 rfl (by decide) (by decide) (by decide) ?_
      refine jr_st [.int (nI ht), .int 5, .ref bg] (jst1 ((pk_un (by decide)).trans hg5)) ?_
      refine jr_iastN CC (jd ddL_isPut 124 rfl) 4 5 rfl (by decide) (by decide) (by decide) ?_
      refine jr_aload_n CC (jd ddL_isPut 125 rfl) 3 rfl ?_
      refine jr_iload_n CC (jd ddL_isPut 126 rfl) 5 rfl ?_
      refine jr_pc (pc' := 204) rfl ?_
      refine jr_iload_n CC (jd ddL_isPut 127 rfl) 6 rfl ?_
      refine jr_callW (rest := []) [.ref h0, .int 2, .int (nI its)] CC (jd ddL_isPut 128 rfl) (jy_L_194 CC) (k_L_puts2 l t hfl h0 x1 x2 x3 x4 x5 x6 fi e0 e1 e2 e3 pn ht KA DA (nI its) hpn (by first | assumption | omega | decide)) [0, 1, 2, 3] rfl (by decide) rfl rfl (by decide) (Nat.le_of_ble_eq_true rfl) (by rintro v u h; rcases h with ⟨z9_0, rfl, rfl⟩ | ⟨z9_0, rfl, rfl⟩ | ⟨z9_0, rfl, rfl⟩ <;> exact (show ([h0, x4, e0, e1] : List Nat) = [h0, x4, e0, e1] from rfl)) (fun _ _ h => h.elim) (fun _ _ h => h.elim) (fun v u h => ?_)
      rcases h with ⟨c53, rfl, rfl⟩ | ⟨c54, rfl, rfl⟩ | ⟨c55, rfl, rfl⟩
      · refine jr_norm [(h0, .inr (9, [.ref x1, .ref x2, .ref x3, .ref x4, .ref x5, .ref x6, .int fi])), (x4, .inr (2, [.ref e0, .ref e1, .ref e2, .ref e3, .int (nI pn), .int (nI ht)])), (e0, .inl (t 0, 16, .inl KA)), (e1, .inl (t 0, 16, .inl DA)), (bg, .inl (t 0, 7, .inl (upd (upd g 4 (nI (pn + 0))) 5 (nI ht))))] [.int (-20)] 208 3 18 rfl rfl rfl rfl rfl ?_
        refine jr_iload CC (jd ddL_isPut 129 rfl) 2 rfl ?_
        refine jr_if_ne 218 CC (jd ddL_isPut 130 rfl) (by decide) (fun h => absurd h (by decide)) (fun _ => ?_)
        refine jr_bipush (v := (-20)) CC (jd ddL_isPut 131 rfl) (by decide) ?_
        refine jr_goto 230 CC (jd ddL_isPut 132 rfl) (by decide) ?_
        refine jr_icmp_ne 237 CC (jd ddL_isPut 138 rfl) (by decide) (fun h => absurd h (fun h9 => h9 rfl)) (fun _ => ?_)
        refine jr_iconst (v := 1) CC (jd ddL_isPut 139 rfl) (by decide) ?_
        refine jr_goto 238 CC (jd ddL_isPut 140 rfl) (by decide) ?_
        exact jr_zret rfl CC MM (jd ddL_isPut 142 rfl) rfl (by decide) (by decide) ⟨pn, ht, KA, DA, (upd (upd g 4 (nI (pn + 0))) 5 (nI ht)), putP_of (by omega) (by omega) hDA rfl rfl, rfl, rfl⟩
      · exact absurd ((eApply_v (show its < 1000000 by omega) hpn (show ht ≤ 16 by omega)).symm.trans c54) (by rw [if_neg hR]; decide)
      · exact absurd ((eApply_v (show its < 1000000 by omega) hpn (show ht ≤ 16 by omega)).symm.trans c55) (by rw [if_neg hR]; decide)
    · refine jr_iload_n CC (jd ddL_isPut 23 rfl) 2 rfl ?_
      refine jr_if_ne 50 CC (jd ddL_isPut 24 rfl) (by decide) (fun _ => ?_) (fun h => absurd h (by decide))
      refine jr_iload_n CC (jd ddL_isPut 32 rfl) 2 rfl ?_
      refine jr_iconst (v := 1) CC (jd ddL_isPut 33 rfl) (by decide) ?_
      refine jr_icmp_ne 70 CC (jd ddL_isPut 34 rfl) (by decide) (fun _ => ?_) (fun h => absurd h (by decide))
      refine jr_iload_n CC (jd ddL_isPut 42 rfl) 2 rfl ?_
      refine jr_iconst (v := 2) CC (jd ddL_isPut 43 rfl) (by decide) ?_
      refine jr_pc (pc' := 72) rfl ?_
      refine jr_icmp_ne 88 CC (jd ddL_isPut 44 rfl) (by decide) (fun h => absurd h (by decide)) (fun _ => ?_)
      refine jr_iload_n CC (jd ddL_isPut 45 rfl) 3 rfl ?_
      refine jr_iconst (v := 4) CC (jd ddL_isPut 46 rfl) (by decide) ?_
      refine jr_icmp_ge 84 CC (jd ddL_isPut 47 rfl) (by decide) (fun _ => ?_) (fun h => absurd (nI_le (a := 4) (b := its) (by omega) (by omega)) h)
      refine jr_iconst (v := 0) CC (jd ddL_isPut 50 rfl) (by decide) ?_
      refine jr_goto 98 CC (jd ddL_isPut 51 rfl) (by decide) ?_
      refine jr_istore [(4, .int 0), (0, .ref h0), (1, .ref bg), (2, .int 2), (3, .int (nI its))] CC (jd ddL_isPut 58 rfl) (by decide) rfl ?_
      refine jr_aload_n CC (jd ddL_isPut 59 rfl) 2 rfl ?_
      refine jr_iconst (v := 4) CC (jd ddL_isPut 60 rfl) (by decide) ?_
      refine jr_ialdN CC (jd ddL_isPut 61 rfl) 4 4 rfl (by decide) (by decide) (by decide) ?_
      refine jr_st [.int (nI pn)] (jst1 hg4) ?_
      refine jr_bipush (v := 16) CC (jd ddL_isPut 62 rfl) (by decide) ?_
      refine jr_icmp_ge 126 CC (jd ddL_isPut 63 rfl) (by decide) (fun c60 => ?_) (fun c60 => ?_)
      · have n60 := jle_of (a := 16) (b := pn) c60 (by omega) (by omega)
        refine jr_iconst (v := 0) CC (jd ddL_isPut 76 rfl) (by decide) ?_
        refine jr_istore [(5, .int 0), (4, .int 0), (0, .ref h0), (1, .ref bg), (2, .int 2), (3, .int (nI its))] CC (jd ddL_isPut 77 rfl) (by decide) rfl ?_
        refine jr_iload_n CC (jd ddL_isPut 78 rfl) 4 rfl ?_
        refine jr_iconst (v := 2) CC (jd ddL_isPut 79 rfl) (by decide) ?_
        refine jr_pc (pc' := 131) rfl ?_
        refine jr_icmp_ge 142 CC (jd ddL_isPut 80 rfl) (by decide) (fun _ => ?_) (fun h => absurd h (by decide))
        refine jr_iload_n CC (jd ddL_isPut 87 rfl) 4 rfl ?_
        refine jr_iconst (v := 2) CC (jd ddL_isPut 88 rfl) (by decide) ?_
        refine jr_icmp_ne 153 CC (jd ddL_isPut 89 rfl) (by decide) (fun h => absurd h (by decide)) (fun _ => ?_)
        refine jr_aload_n CC (jd ddL_isPut 90 rfl) 3 rfl ?_
        refine jr_iconst (v := 5) CC (jd ddL_isPut 91 rfl) (by decide) ?_
        refine jr_ialdN CC (jd ddL_isPut 92 rfl) 4 5 rfl (by decide) (by decide) (by decide) ?_
        refine jr_st [.int (nI ht)] (jst1 hg5) ?_
        refine jr_goto 158 CC (jd ddL_isPut 93 rfl) (by decide) ?_
        refine jr_istore [(6, .int (nI ht)), (5, .int 0), (4, .int 0), (0, .ref h0), (1, .ref bg), (2, .int 2), (3, .int (nI its))] CC (jd ddL_isPut 99 rfl) (by decide) rfl ?_
        refine jr_aload_n CC (jd ddL_isPut 100 rfl) 4 rfl ?_
        refine jr_iconst (v := 4) CC (jd ddL_isPut 101 rfl) (by decide) ?_
        refine jr_dup2 CC (jd ddL_isPut 102 rfl) rfl rfl ?_
        refine jr_ialdN CC (jd ddL_isPut 103 rfl) 4 4 rfl (by decide) (by decide) (by decide) ?_
        refine jr_st [.int (nI pn), .int 4, .ref bg] (jst1 hg4) ?_
        refine jr_iload CC (jd ddL_isPut 104 rfl) 2 rfl ?_
        refine jr_if_eq 178 CC (jd ddL_isPut 105 rfl) (by decide) (fun _ => ?_) (fun h => absurd h (by decide))
        refine jr_iconst (v := 0) CC (jd ddL_isPut 110 rfl) (by decide) ?_
        refine jr_iadd CC (jd ddL_isPut 111 rfl) ?_
        refine jr_st [.int (nI (pn + 0)), .int 4, .ref bg] (jst1 (nI_add pn 0)) ?_
        refine jr_iastN CC (jd ddL_isPut 112 rfl) 4 4 rfl (by decide) (by decide) (by decide) ?_
        refine jr_pc (pc' := 181) rfl ?_
        refine jr_aload_n CC (jd ddL_isPut 113 rfl) 4 rfl ?_
        refine jr_iconst (v := 5) CC (jd ddL_isPut 114 rfl) (by decide) ?_
        refine jr_iload CC (jd ddL_isPut 115 rfl) 2 rfl ?_
        refine jr_if_eq 198 CC (jd ddL_isPut 116 rfl) (by decide) (fun _ => ?_) (fun h => absurd h (by decide))
        refine jr_aload_n CC (jd ddL_isPut 121 rfl) 4 rfl ?_
        refine jr_iconst (v := 5) CC (jd ddL_isPut 122 rfl) (by decide) ?_
        refine jr_ialdN CC (jd ddL_isPut 123 rfl) 4 5 rfl (by decide) (by decide) (by decide) ?_
        refine jr_st [.int (nI ht), .int 5, .ref bg] (jst1 ((pk_un (by decide)).trans hg5)) ?_
        refine jr_iastN CC (jd ddL_isPut 124 rfl) 4 5 rfl (by decide) (by decide) (by decide) ?_
        refine jr_aload_n CC (jd ddL_isPut 125 rfl) 3 rfl ?_
        refine jr_iload_n CC (jd ddL_isPut 126 rfl) 5 rfl ?_
        refine jr_pc (pc' := 204) rfl ?_
        refine jr_iload_n CC (jd ddL_isPut 127 rfl) 6 rfl ?_
        refine jr_callW (rest := []) [.ref h0, .int 2, .int (nI its)] CC (jd ddL_isPut 128 rfl) (jy_L_194 CC) (k_L_puts2 l t hfl h0 x1 x2 x3 x4 x5 x6 fi e0 e1 e2 e3 pn ht KA DA (nI its) hpn (by first | assumption | omega | decide)) [0, 1, 2, 3] rfl (by decide) rfl rfl (by decide) (Nat.le_of_ble_eq_true rfl) (by rintro v u h; rcases h with ⟨z9_0, rfl, rfl⟩ | ⟨z9_0, rfl, rfl⟩ | ⟨z9_0, rfl, rfl⟩ <;> exact (show ([h0, x4, e0, e1] : List Nat) = [h0, x4, e0, e1] from rfl)) (fun _ _ h => h.elim) (fun _ _ h => h.elim) (fun v u h => ?_)
        rcases h with ⟨c65, rfl, rfl⟩ | ⟨c66, rfl, rfl⟩ | ⟨c67, rfl, rfl⟩
        · refine jr_norm [(h0, .inr (9, [.ref x1, .ref x2, .ref x3, .ref x4, .ref x5, .ref x6, .int fi])), (x4, .inr (2, [.ref e0, .ref e1, .ref e2, .ref e3, .int (nI pn), .int (nI ht)])), (e0, .inl (t 0, 16, .inl KA)), (e1, .inl (t 0, 16, .inl DA)), (bg, .inl (t 0, 7, .inl (upd (upd g 4 (nI (pn + 0))) 5 (nI ht))))] [.int (-20)] 208 3 18 rfl rfl rfl rfl rfl ?_
          refine jr_iload CC (jd ddL_isPut 129 rfl) 2 rfl ?_
          refine jr_if_ne 218 CC (jd ddL_isPut 130 rfl) (by decide) (fun h => absurd h (by decide)) (fun _ => ?_)
          refine jr_bipush (v := (-20)) CC (jd ddL_isPut 131 rfl) (by decide) ?_
          refine jr_goto 230 CC (jd ddL_isPut 132 rfl) (by decide) ?_
          refine jr_icmp_ne 237 CC (jd ddL_isPut 138 rfl) (by decide) (fun h => absurd h (fun h9 => h9 rfl)) (fun _ => ?_)
          refine jr_iconst (v := 1) CC (jd ddL_isPut 139 rfl) (by decide) ?_
          refine jr_goto 238 CC (jd ddL_isPut 140 rfl) (by decide) ?_
          exact jr_zret rfl CC MM (jd ddL_isPut 142 rfl) rfl (by decide) (by decide) ⟨pn, ht, KA, DA, (upd (upd g 4 (nI (pn + 0))) 5 (nI ht)), putP_of (by omega) (by omega) hDA rfl rfl, rfl, rfl⟩
        · exact absurd ((eApply_v (show its < 1000000 by omega) hpn (show ht ≤ 16 by omega)).symm.trans c66) (by rw [if_neg hR]; decide)
        · exact absurd ((eApply_v (show its < 1000000 by omega) hpn (show ht ≤ 16 by omega)).symm.trans c67) (by rw [if_neg hR]; decide)
      · have n60 := jle_not (a := 16) (b := pn) c60 (by omega) (by omega)
        refine jr_iload_n CC (jd ddL_isPut 64 rfl) 3 rfl ?_
        refine jr_iconst (v := 2) CC (jd ddL_isPut 65 rfl) (by decide) ?_
        refine jr_icmp_lt 122 CC (jd ddL_isPut 66 rfl) (by decide) (fun h => absurd h (by decide)) (fun _ => ?_)
        refine jr_aload_n CC (jd ddL_isPut 67 rfl) 2 rfl ?_
        refine jr_pc (pc' := 114) rfl ?_
        refine jr_iconst (v := 5) CC (jd ddL_isPut 68 rfl) (by decide) ?_
        refine jr_ialdN CC (jd ddL_isPut 69 rfl) 4 5 rfl (by decide) (by decide) (by decide) ?_
        refine jr_st [.int (nI ht)] (jst1 hg5) ?_
        refine jr_iload_n CC (jd ddL_isPut 70 rfl) 3 rfl ?_
        refine jr_iconst (v := 2) CC (jd ddL_isPut 71 rfl) (by decide) ?_
        refine jr_isub CC (jd ddL_isPut 72 rfl) ?_
        refine jr_st [.int 0, .int (nI ht)] (by rfl) ?_
        refine jr_icmp_le 126 CC (jd ddL_isPut 73 rfl) (by decide) (fun c70 => ?_) (fun c70 => ?_)
        · have n70 := jle_of (a := ht) (b := 0) c70 (by omega) (by omega)
          refine jr_iconst (v := 0) CC (jd ddL_isPut 76 rfl) (by decide) ?_
          refine jr_istore [(5, .int 0), (4, .int 0), (0, .ref h0), (1, .ref bg), (2, .int 2), (3, .int (nI its))] CC (jd ddL_isPut 77 rfl) (by decide) rfl ?_
          refine jr_iload_n CC (jd ddL_isPut 78 rfl) 4 rfl ?_
          refine jr_iconst (v := 2) CC (jd ddL_isPut 79 rfl) (by decide) ?_
          refine jr_pc (pc' := 131) rfl ?_
          refine jr_icmp_ge 142 CC (jd ddL_isPut 80 rfl) (by decide) (fun _ => ?_) (fun h => absurd h (by decide))
          refine jr_iload_n CC (jd ddL_isPut 87 rfl) 4 rfl ?_
          refine jr_iconst (v := 2) CC (jd ddL_isPut 88 rfl) (by decide) ?_
          refine jr_icmp_ne 153 CC (jd ddL_isPut 89 rfl) (by decide) (fun h => absurd h (by decide)) (fun _ => ?_)
          refine jr_aload_n CC (jd ddL_isPut 90 rfl) 3 rfl ?_
          refine jr_iconst (v := 5) CC (jd ddL_isPut 91 rfl) (by decide) ?_
          refine jr_ialdN CC (jd ddL_isPut 92 rfl) 4 5 rfl (by decide) (by decide) (by decide) ?_
          refine jr_st [.int (nI ht)] (jst1 hg5) ?_
          refine jr_goto 158 CC (jd ddL_isPut 93 rfl) (by decide) ?_
          refine jr_istore [(6, .int (nI ht)), (5, .int 0), (4, .int 0), (0, .ref h0), (1, .ref bg), (2, .int 2), (3, .int (nI its))] CC (jd ddL_isPut 99 rfl) (by decide) rfl ?_
          refine jr_aload_n CC (jd ddL_isPut 100 rfl) 4 rfl ?_
          refine jr_iconst (v := 4) CC (jd ddL_isPut 101 rfl) (by decide) ?_
          refine jr_dup2 CC (jd ddL_isPut 102 rfl) rfl rfl ?_
          refine jr_ialdN CC (jd ddL_isPut 103 rfl) 4 4 rfl (by decide) (by decide) (by decide) ?_
          refine jr_st [.int (nI pn), .int 4, .ref bg] (jst1 hg4) ?_
          refine jr_iload CC (jd ddL_isPut 104 rfl) 2 rfl ?_
          refine jr_if_eq 178 CC (jd ddL_isPut 105 rfl) (by decide) (fun _ => ?_) (fun h => absurd h (by decide))
          refine jr_iconst (v := 0) CC (jd ddL_isPut 110 rfl) (by decide) ?_
          refine jr_iadd CC (jd ddL_isPut 111 rfl) ?_
          refine jr_st [.int (nI (pn + 0)), .int 4, .ref bg] (jst1 (nI_add pn 0)) ?_
          refine jr_iastN CC (jd ddL_isPut 112 rfl) 4 4 rfl (by decide) (by decide) (by decide) ?_
          refine jr_pc (pc' := 181) rfl ?_
          refine jr_aload_n CC (jd ddL_isPut 113 rfl) 4 rfl ?_
          refine jr_iconst (v := 5) CC (jd ddL_isPut 114 rfl) (by decide) ?_
          refine jr_iload CC (jd ddL_isPut 115 rfl) 2 rfl ?_
          refine jr_if_eq 198 CC (jd ddL_isPut 116 rfl) (by decide) (fun _ => ?_) (fun h => absurd h (by decide))
          refine jr_aload_n CC (jd ddL_isPut 121 rfl) 4 rfl ?_
          refine jr_iconst (v := 5) CC (jd ddL_isPut 122 rfl) (by decide) ?_
          refine jr_ialdN CC (jd ddL_isPut 123 rfl) 4 5 rfl (by decide) (by decide) (by decide) ?_
          refine jr_st [.int (nI ht), .int 5, .ref bg] (jst1 ((pk_un (by decide)).trans hg5)) ?_
          refine jr_iastN CC (jd ddL_isPut 124 rfl) 4 5 rfl (by decide) (by decide) (by decide) ?_
          refine jr_aload_n CC (jd ddL_isPut 125 rfl) 3 rfl ?_
          refine jr_iload_n CC (jd ddL_isPut 126 rfl) 5 rfl ?_
          refine jr_pc (pc' := 204) rfl ?_
          refine jr_iload_n CC (jd ddL_isPut 127 rfl) 6 rfl ?_
          refine jr_callW (rest := []) [.ref h0, .int 2, .int (nI its)] CC (jd ddL_isPut 128 rfl) (jy_L_194 CC) (k_L_puts2 l t hfl h0 x1 x2 x3 x4 x5 x6 fi e0 e1 e2 e3 pn ht KA DA (nI its) hpn (by first | assumption | omega | decide)) [0, 1, 2, 3] rfl (by decide) rfl rfl (by decide) (Nat.le_of_ble_eq_true rfl) (by rintro v u h; rcases h with ⟨z9_0, rfl, rfl⟩ | ⟨z9_0, rfl, rfl⟩ | ⟨z9_0, rfl, rfl⟩ <;> exact (show ([h0, x4, e0, e1] : List Nat) = [h0, x4, e0, e1] from rfl)) (fun _ _ h => h.elim) (fun _ _ h => h.elim) (fun v u h => ?_)
          rcases h with ⟨c75, rfl, rfl⟩ | ⟨c76, rfl, rfl⟩ | ⟨c77, rfl, rfl⟩
          · refine jr_norm [(h0, .inr (9, [.ref x1, .ref x2, .ref x3, .ref x4, .ref x5, .ref x6, .int fi])), (x4, .inr (2, [.ref e0, .ref e1, .ref e2, .ref e3, .int (nI pn), .int (nI ht)])), (e0, .inl (t 0, 16, .inl KA)), (e1, .inl (t 0, 16, .inl DA)), (bg, .inl (t 0, 7, .inl (upd (upd g 4 (nI (pn + 0))) 5 (nI ht))))] [.int (-20)] 208 3 18 rfl rfl rfl rfl rfl ?_
            refine jr_iload CC (jd ddL_isPut 129 rfl) 2 rfl ?_
            refine jr_if_ne 218 CC (jd ddL_isPut 130 rfl) (by decide) (fun h => absurd h (by decide)) (fun _ => ?_)
            refine jr_bipush (v := (-20)) CC (jd ddL_isPut 131 rfl) (by decide) ?_
            refine jr_goto 230 CC (jd ddL_isPut 132 rfl) (by decide) ?_
            refine jr_icmp_ne 237 CC (jd ddL_isPut 138 rfl) (by decide) (fun h => absurd h (fun h9 => h9 rfl)) (fun _ => ?_)
            refine jr_iconst (v := 1) CC (jd ddL_isPut 139 rfl) (by decide) ?_
            refine jr_goto 238 CC (jd ddL_isPut 140 rfl) (by decide) ?_
            exact jr_zret rfl CC MM (jd ddL_isPut 142 rfl) rfl (by decide) (by decide) ⟨pn, ht, KA, DA, (upd (upd g 4 (nI (pn + 0))) 5 (nI ht)), putP_of (by omega) (by omega) hDA rfl rfl, rfl, rfl⟩
          · exact absurd ((eApply_v (show its < 1000000 by omega) hpn (show ht ≤ 16 by omega)).symm.trans c76) (by rw [if_neg hR]; decide)
          · exact absurd ((eApply_v (show its < 1000000 by omega) hpn (show ht ≤ 16 by omega)).symm.trans c77) (by rw [if_neg hR]; decide)
        · have n70 := jle_not (a := ht) (b := 0) c70 (by omega) (by omega)
          exact absurd (⟨by omega, by omega⟩ : pn < 16 ∧ 1 ≤ ht) hC
set_option maxHeartbeats 8000000 in
set_option maxRecDepth 100000 in
theorem k_L_isPut3 (l : Launch) (t : Nat → ClassId) (hfl : l.stackTraces = false) (h0 : Nat) (x1 : Nat) (x2 : Nat) (x3 : Nat) (x4 : Nat) (x5 : Nat) (x6 : Nat) (fi : Int32) (e0 : Nat) (e1 : Nat) (e2 : Nat) (e3 : Nat) (pn : Nat) (ht : Nat) (KA : Nat → Int32) (DA : Nat → Int32) (bg : Nat) (g : Nat → Int32) (its : Nat) (hpn : pn ≤ 16) (hht : ht ≤ pn) (hDA : ∀ z, z < pn → i6 (DA z)) (hg4 : g 4 = nI pn) (hg5 : g 5 = nI ht) (hits : its < 1200) : jKx l t yL_isPut (Cond.code yL_isPut cL_isPut 7 (some .boolean) :: jWS) { frames := 9, cells := 3, slots := 18, locals := 148 } [.ref h0, .ref bg, .int 3, .int (nI its)] [(h0, .inr (9, [.ref x1, .ref x2, .ref x3, .ref x4, .ref x5, .ref x6, .int fi])), (x4, .inr (2, [.ref e0, .ref e1, .ref e2, .ref e3, .int (nI pn), .int (nI ht)])), (e0, .inl (t 0, 16, .inl KA)), (e1, .inl (t 0, 16, .inl DA)), (bg, .inl (t 0, 7, .inl g))] (fun vv uu => (∃ pn9 : Nat, ∃ ht9 : Nat, ∃ KA9 : Nat → Int32, ∃ DA9 : Nat → Int32, ∃ g9 : Nat → Int32, (putP pn9 ht9 g DA9 g9) ∧ vv = some (.int 1) ∧ uu = [(h0, .inr (9, [.ref x1, .ref x2, .ref x3, .ref x4, .ref x5, .ref x6, .int fi])), (x4, .inr (2, [.ref e0, .ref e1, .ref e2, .ref e3, .int (nI pn9), .int (nI ht9)])), (e0, .inl (t 0, 16, .inl KA9)), (e1, .inl (t 0, 16, .inl DA9)), (bg, .inl (t 0, 7, .inl g9))])) (fun _ _ => False) := by
  refine jK_of hfl (by decide +kernel) (Nat.le_of_ble_eq_true rfl) ?_
  intro p e s m args below meth c D A Q CC MM
  refine jr_norm0 [(0, .ref h0), (1, .ref bg), (2, .int 3), (3, .int (nI its))] rfl ?_
  refine jr_iload_n CC (jd ddL_isPut 0 rfl) 2 rfl ?_
  refine jr_iconst (v := 4) CC (jd ddL_isPut 1 rfl) (by decide) ?_
  refine jr_icmp_ne 33 CC (jd ddL_isPut 2 rfl) (by decide) (fun _ => ?_) (fun h => absurd h (by decide))
  refine (Classical.em (its < 5)).elim (fun hR => ?_) (fun hR => ?_)
  · refine (Classical.em (pn < 16 ∧ 2 ≤ ht)).elim (fun hC => ?_) (fun hC => ?_)
    · refine jr_iload_n CC (jd ddL_isPut 23 rfl) 2 rfl ?_
      refine jr_if_ne 50 CC (jd ddL_isPut 24 rfl) (by decide) (fun _ => ?_) (fun h => absurd h (by decide))
      refine jr_iload_n CC (jd ddL_isPut 32 rfl) 2 rfl ?_
      refine jr_iconst (v := 1) CC (jd ddL_isPut 33 rfl) (by decide) ?_
      refine jr_icmp_ne 70 CC (jd ddL_isPut 34 rfl) (by decide) (fun _ => ?_) (fun h => absurd h (by decide))
      refine jr_iload_n CC (jd ddL_isPut 42 rfl) 2 rfl ?_
      refine jr_iconst (v := 2) CC (jd ddL_isPut 43 rfl) (by decide) ?_
      refine jr_pc (pc' := 72) rfl ?_
      refine jr_icmp_ne 88 CC (jd ddL_isPut 44 rfl) (by decide) (fun _ => ?_) (fun h => absurd h (by decide))
      refine jr_iload_n CC (jd ddL_isPut 52 rfl) 3 rfl ?_
      refine jr_iconst (v := 5) CC (jd ddL_isPut 53 rfl) (by decide) ?_
      refine jr_icmp_ge 97 CC (jd ddL_isPut 54 rfl) (by decide) (fun h => absurd h (nI_ge (a := its) (b := 5) hR (by decide))) (fun _ => ?_)
      refine jr_iconst (v := 1) CC (jd ddL_isPut 55 rfl) (by decide) ?_
      refine jr_goto 98 CC (jd ddL_isPut 56 rfl) (by decide) ?_
      refine jr_istore [(4, .int 1), (0, .ref h0), (1, .ref bg), (2, .int 3), (3, .int (nI its))] CC (jd ddL_isPut 58 rfl) (by decide) rfl ?_
      refine jr_aload_n CC (jd ddL_isPut 59 rfl) 2 rfl ?_
      refine jr_iconst (v := 4) CC (jd ddL_isPut 60 rfl) (by decide) ?_
      refine jr_ialdN CC (jd ddL_isPut 61 rfl) 4 4 rfl (by decide) (by decide) (by decide) ?_
      refine jr_st [.int (nI pn)] (jst1 hg4) ?_
      refine jr_bipush (v := 16) CC (jd ddL_isPut 62 rfl) (by decide) ?_
      refine jr_icmp_ge 126 CC (jd ddL_isPut 63 rfl) (by decide) (fun h => absurd h (nI_ge (a := pn) (b := 16) (by omega) (by decide))) (fun _ => ?_)
      refine jr_iload_n CC (jd ddL_isPut 64 rfl) 3 rfl ?_
      refine jr_iconst (v := 2) CC (jd ddL_isPut 65 rfl) (by decide) ?_
      refine jr_icmp_lt 122 CC (jd ddL_isPut 66 rfl) (by decide) (fun h => absurd h (by decide)) (fun _ => ?_)
      refine jr_aload_n CC (jd ddL_isPut 67 rfl) 2 rfl ?_
      refine jr_pc (pc' := 114) rfl ?_
      refine jr_iconst (v := 5) CC (jd ddL_isPut 68 rfl) (by decide) ?_
      refine jr_ialdN CC (jd ddL_isPut 69 rfl) 4 5 rfl (by decide) (by decide) (by decide) ?_
      refine jr_st [.int (nI ht)] (jst1 hg5) ?_
      refine jr_iload_n CC (jd ddL_isPut 70 rfl) 3 rfl ?_
      refine jr_iconst (v := 2) CC (jd ddL_isPut 71 rfl) (by decide) ?_
      refine jr_isub CC (jd ddL_isPut 72 rfl) ?_
      refine jr_st [.int 1, .int (nI ht)] (by rfl) ?_
      refine jr_icmp_le 126 CC (jd ddL_isPut 73 rfl) (by decide) (fun h => absurd h (nI_ge (a := 1) (b := ht) (by omega) (by omega))) (fun _ => ?_)
      refine jr_iconst (v := 1) CC (jd ddL_isPut 74 rfl) (by decide) ?_
      refine jr_goto 127 CC (jd ddL_isPut 75 rfl) (by decide) ?_
      refine jr_istore [(5, .int 1), (4, .int 1), (0, .ref h0), (1, .ref bg), (2, .int 3), (3, .int (nI its))] CC (jd ddL_isPut 77 rfl) (by decide) rfl ?_
      refine jr_iload_n CC (jd ddL_isPut 78 rfl) 4 rfl ?_
      refine jr_iconst (v := 2) CC (jd ddL_isPut 79 rfl) (by decide) ?_
      refine jr_icmp_ge 142 CC (jd ddL_isPut 80 rfl) (by decide) (fun _ => ?_) (fun h => absurd h (by decide))
      refine jr_iload_n CC (jd ddL_isPut 87 rfl) 4 rfl ?_
      refine jr_iconst (v := 2) CC (jd ddL_isPut 88 rfl) (by decide) ?_
      refine jr_icmp_ne 153 CC (jd ddL_isPut 89 rfl) (by decide) (fun _ => ?_) (fun h => absurd h (by decide))
      refine jr_aload_n CC (jd ddL_isPut 94 rfl) 3 rfl ?_
      refine jr_iconst (v := 5) CC (jd ddL_isPut 95 rfl) (by decide) ?_
      refine jr_ialdN CC (jd ddL_isPut 96 rfl) 4 5 rfl (by decide) (by decide) (by decide) ?_
      refine jr_st [.int (nI ht)] (jst1 hg5) ?_
      refine jr_pc (pc' := 156) rfl ?_
      refine jr_iconst (v := 1) CC (jd ddL_isPut 97 rfl) (by decide) ?_
      refine jr_isub CC (jd ddL_isPut 98 rfl) ?_
      refine jr_st [.int (nI (ht - 1))] (by rw [show nI ht - 1 = nI (ht - 1) from pk_sub (a := ht) (b := 1) (by omega)]) ?_
      refine jr_istore [(6, .int (nI (ht - 1))), (5, .int 1), (4, .int 1), (0, .ref h0), (1, .ref bg), (2, .int 3), (3, .int (nI its))] CC (jd ddL_isPut 99 rfl) (by decide) rfl ?_
      refine jr_aload_n CC (jd ddL_isPut 100 rfl) 4 rfl ?_
      refine jr_iconst (v := 4) CC (jd ddL_isPut 101 rfl) (by decide) ?_
      refine jr_dup2 CC (jd ddL_isPut 102 rfl) rfl rfl ?_
      refine jr_ialdN CC (jd ddL_isPut 103 rfl) 4 4 rfl (by decide) (by decide) (by decide) ?_
      refine jr_st [.int (nI pn), .int 4, .ref bg] (jst1 hg4) ?_
      refine jr_iload CC (jd ddL_isPut 104 rfl) 2 rfl ?_
      refine jr_if_eq 178 CC (jd ddL_isPut 105 rfl) (by decide) (fun h => absurd h (by decide)) (fun _ => ?_)
      refine jr_iload CC (jd ddL_isPut 106 rfl) 1 rfl ?_
      refine jr_pc (pc' := 171) rfl ?_
      refine jr_if_eq 178 CC (jd ddL_isPut 107 rfl) (by decide) (fun h => absurd h (by decide)) (fun _ => ?_)
      refine jr_iconst (v := 1) CC (jd ddL_isPut 108 rfl) (by decide) ?_
      refine jr_goto 179 CC (jd ddL_isPut 109 rfl) (by decide) ?_
      refine jr_iadd CC (jd ddL_isPut 111 rfl) ?_
      refine jr_st [.int (nI (pn + 1)), .int 4, .ref bg] (jst1 (nI_add pn 1)) ?_
      refine jr_iastN CC (jd ddL_isPut 112 rfl) 4 4 rfl (by decide) (by decide) (by decide) ?_
      refine jr_aload_n CC (jd ddL_isPut 113 rfl) 4 rfl ?_
      refine jr_iconst (v := 5) CC (jd ddL_isPut 114 rfl) (by decide) ?_
      refine jr_iload CC (jd ddL_isPut 115 rfl) 2 rfl ?_
      refine jr_if_eq 198 CC (jd ddL_isPut 116 rfl) (by decide) (fun h => absurd h (by decide)) (fun _ => ?_)
      refine jr_iload CC (jd ddL_isPut 117 rfl) 1 rfl ?_
      refine jr_if_eq 198 CC (jd ddL_isPut 118 rfl) (by decide) (fun h => absurd h (by decide)) (fun _ => ?_)
      refine jr_iload CC (jd ddL_isPut 119 rfl) 0 rfl ?_
      refine jr_goto 201 CC (jd ddL_isPut 120 rfl) (by decide) ?_
      refine jr_iastN CC (jd ddL_isPut 124 rfl) 4 5 rfl (by decide) (by decide) (by decide) ?_
      refine jr_aload_n CC (jd ddL_isPut 125 rfl) 3 rfl ?_
      refine jr_iload_n CC (jd ddL_isPut 126 rfl) 5 rfl ?_
      refine jr_iload_n CC (jd ddL_isPut 127 rfl) 6 rfl ?_
      refine jr_callW (rest := []) [.ref h0, .int 3, .int (nI its)] CC (jd ddL_isPut 128 rfl) (jy_L_194 CC) (k_L_puts3 l t hfl h0 x1 x2 x3 x4 x5 x6 fi e0 e1 e2 e3 pn ht KA DA (nI its) hpn (by first | assumption | omega | decide)) [0, 1, 2, 3] rfl (by decide) rfl rfl (by decide) (Nat.le_of_ble_eq_true rfl) (by rintro v u h; rcases h with ⟨z9_0, rfl, rfl⟩ | ⟨z9_0, rfl, rfl⟩ | ⟨z9_0, rfl, rfl⟩ <;> exact (show ([h0, x4, e0, e1] : List Nat) = [h0, x4, e0, e1] from rfl)) (fun _ _ h => h.elim) (fun _ _ h => h.elim) (fun v u h => ?_)
      rcases h with ⟨c12, rfl, rfl⟩ | ⟨c13, rfl, rfl⟩ | ⟨c14, rfl, rfl⟩
      · exact absurd ((eComb_v (show its < 1000000 by omega) hpn (show ht ≤ 16 by omega)).symm.trans c12) (by rw [if_pos hR, if_pos hC.1, if_pos hC.2]; decide)
      · exact absurd ((eComb_v (show its < 1000000 by omega) hpn (show ht ≤ 16 by omega)).symm.trans c13) (by rw [if_pos hR, if_pos hC.1, if_pos hC.2]; decide)
      · refine jr_norm [(h0, .inr (9, [.ref x1, .ref x2, .ref x3, .ref x4, .ref x5, .ref x6, .int fi])), (x4, .inr (2, [.ref e0, .ref e1, .ref e2, .ref e3, .int (nI (pn + 1)), .int (nI (ht - 1))])), (e0, .inl (t 0, 16, .inl (upd KA pn 3))), (e1, .inl (t 0, 16, .inl (upd DA pn (nI its)))), (bg, .inl (t 0, 7, .inl (upd (upd g 4 (nI (pn + 1))) 5 (nI (ht - 1)))))] [.int (nI (ht - 1))] 208 3 18 rfl rfl rfl rfl rfl ?_
        refine jr_iload CC (jd ddL_isPut 129 rfl) 2 rfl ?_
        refine jr_if_ne 218 CC (jd ddL_isPut 130 rfl) (by decide) (fun _ => ?_) (fun h => absurd h (by decide))
        refine jr_iload CC (jd ddL_isPut 133 rfl) 1 rfl ?_
        refine jr_if_eq 228 CC (jd ddL_isPut 134 rfl) (by decide) (fun h => absurd h (by decide)) (fun _ => ?_)
        refine jr_iload CC (jd ddL_isPut 135 rfl) 0 rfl ?_
        refine jr_goto 230 CC (jd ddL_isPut 136 rfl) (by decide) ?_
        refine jr_icmp_ne 237 CC (jd ddL_isPut 138 rfl) (by decide) (fun h => absurd h (fun h9 => h9 rfl)) (fun _ => ?_)
        refine jr_iconst (v := 1) CC (jd ddL_isPut 139 rfl) (by decide) ?_
        refine jr_goto 238 CC (jd ddL_isPut 140 rfl) (by decide) ?_
        exact jr_zret rfl CC MM (jd ddL_isPut 142 rfl) rfl (by decide) (by decide) ⟨(pn + 1), (ht - 1), (upd KA pn 3), (upd DA pn (nI its)), (upd (upd g 4 (nI (pn + 1))) 5 (nI (ht - 1))), putP_of (by omega) (by omega) (putP_D hDA (by omega)) rfl rfl, rfl, rfl⟩
    · refine jr_iload_n CC (jd ddL_isPut 23 rfl) 2 rfl ?_
      refine jr_if_ne 50 CC (jd ddL_isPut 24 rfl) (by decide) (fun _ => ?_) (fun h => absurd h (by decide))
      refine jr_iload_n CC (jd ddL_isPut 32 rfl) 2 rfl ?_
      refine jr_iconst (v := 1) CC (jd ddL_isPut 33 rfl) (by decide) ?_
      refine jr_icmp_ne 70 CC (jd ddL_isPut 34 rfl) (by decide) (fun _ => ?_) (fun h => absurd h (by decide))
      refine jr_iload_n CC (jd ddL_isPut 42 rfl) 2 rfl ?_
      refine jr_iconst (v := 2) CC (jd ddL_isPut 43 rfl) (by decide) ?_
      refine jr_pc (pc' := 72) rfl ?_
      refine jr_icmp_ne 88 CC (jd ddL_isPut 44 rfl) (by decide) (fun _ => ?_) (fun h => absurd h (by decide))
      refine jr_iload_n CC (jd ddL_isPut 52 rfl) 3 rfl ?_
      refine jr_iconst (v := 5) CC (jd ddL_isPut 53 rfl) (by decide) ?_
      refine jr_icmp_ge 97 CC (jd ddL_isPut 54 rfl) (by decide) (fun h => absurd h (nI_ge (a := its) (b := 5) hR (by decide))) (fun _ => ?_)
      refine jr_iconst (v := 1) CC (jd ddL_isPut 55 rfl) (by decide) ?_
      refine jr_goto 98 CC (jd ddL_isPut 56 rfl) (by decide) ?_
      refine jr_istore [(4, .int 1), (0, .ref h0), (1, .ref bg), (2, .int 3), (3, .int (nI its))] CC (jd ddL_isPut 58 rfl) (by decide) rfl ?_
      refine jr_aload_n CC (jd ddL_isPut 59 rfl) 2 rfl ?_
      refine jr_iconst (v := 4) CC (jd ddL_isPut 60 rfl) (by decide) ?_
      refine jr_ialdN CC (jd ddL_isPut 61 rfl) 4 4 rfl (by decide) (by decide) (by decide) ?_
      refine jr_st [.int (nI pn)] (jst1 hg4) ?_
      refine jr_bipush (v := 16) CC (jd ddL_isPut 62 rfl) (by decide) ?_
      refine jr_icmp_ge 126 CC (jd ddL_isPut 63 rfl) (by decide) (fun c20 => ?_) (fun c20 => ?_)
      · have n20 := jle_of (a := 16) (b := pn) c20 (by omega) (by omega)
        refine jr_iconst (v := 0) CC (jd ddL_isPut 76 rfl) (by decide) ?_
        refine jr_istore [(5, .int 0), (4, .int 1), (0, .ref h0), (1, .ref bg), (2, .int 3), (3, .int (nI its))] CC (jd ddL_isPut 77 rfl) (by decide) rfl ?_
        refine jr_iload_n CC (jd ddL_isPut 78 rfl) 4 rfl ?_
        refine jr_iconst (v := 2) CC (jd ddL_isPut 79 rfl) (by decide) ?_
        refine jr_pc (pc' := 131) rfl ?_
        refine jr_icmp_ge 142 CC (jd ddL_isPut 80 rfl) (by decide) (fun _ => ?_) (fun h => absurd h (by decide))
        refine jr_iload_n CC (jd ddL_isPut 87 rfl) 4 rfl ?_
        refine jr_iconst (v := 2) CC (jd ddL_isPut 88 rfl) (by decide) ?_
        refine jr_icmp_ne 153 CC (jd ddL_isPut 89 rfl) (by decide) (fun _ => ?_) (fun h => absurd h (by decide))
        refine jr_aload_n CC (jd ddL_isPut 94 rfl) 3 rfl ?_
        refine jr_iconst (v := 5) CC (jd ddL_isPut 95 rfl) (by decide) ?_
        refine jr_ialdN CC (jd ddL_isPut 96 rfl) 4 5 rfl (by decide) (by decide) (by decide) ?_
        refine jr_st [.int (nI ht)] (jst1 hg5) ?_
        refine jr_iconst (v := 1) CC (jd ddL_isPut 97 rfl) (by decide) ?_
        refine jr_isub CC (jd ddL_isPut 98 rfl) ?_
        refine jr_istore [(6, .int ((nI ht) - 1)), (5, .int 0), (4, .int 1), (0, .ref h0), (1, .ref bg), (2, .int 3), (3, .int (nI its))] CC (jd ddL_isPut 99 rfl) (by decide) rfl ?_
        refine jr_pc (pc' := 160) rfl ?_
        refine jr_aload_n CC (jd ddL_isPut 100 rfl) 4 rfl ?_
        refine jr_iconst (v := 4) CC (jd ddL_isPut 101 rfl) (by decide) ?_
        refine jr_dup2 CC (jd ddL_isPut 102 rfl) rfl rfl ?_
        refine jr_ialdN CC (jd ddL_isPut 103 rfl) 4 4 rfl (by decide) (by decide) (by decide) ?_
        refine jr_st [.int (nI pn), .int 4, .ref bg] (jst1 hg4) ?_
        refine jr_iload CC (jd ddL_isPut 104 rfl) 2 rfl ?_
        refine jr_if_eq 178 CC (jd ddL_isPut 105 rfl) (by decide) (fun h => absurd h (by decide)) (fun _ => ?_)
        refine jr_iload CC (jd ddL_isPut 106 rfl) 1 rfl ?_
        refine jr_if_eq 178 CC (jd ddL_isPut 107 rfl) (by decide) (fun _ => ?_) (fun h => absurd h (by decide))
        refine jr_iconst (v := 0) CC (jd ddL_isPut 110 rfl) (by decide) ?_
        refine jr_iadd CC (jd ddL_isPut 111 rfl) ?_
        refine jr_st [.int (nI (pn + 0)), .int 4, .ref bg] (jst1 (nI_add pn 0)) ?_
        refine jr_pc (pc' := 180) rfl ?_
        refine jr_iastN CC (jd ddL_isPut 112 rfl) 4 4 rfl (by decide) (by decide) (by decide) ?_
        refine jr_aload_n CC (jd ddL_isPut 113 rfl) 4 rfl ?_
        refine jr_iconst (v := 5) CC (jd ddL_isPut 114 rfl) (by decide) ?_
        refine jr_iload CC (jd ddL_isPut 115 rfl) 2 rfl ?_
        refine jr_if_eq 198 CC (jd ddL_isPut 116 rfl) (by decide) (fun h => absurd h (by decide)) (fun _ => ?_)
        refine jr_iload CC (jd ddL_isPut 117 rfl) 1 rfl ?_
        refine jr_if_eq 198 CC (jd ddL_isPut 118 rfl) (by decide) (fun _ => ?_) (fun h => absurd h (by decide))
        refine jr_aload_n CC (jd ddL_isPut 121 rfl) 4 rfl ?_
        refine jr_iconst (v := 5) CC (jd ddL_isPut 122 rfl) (by decide) ?_
        refine jr_ialdN CC (jd ddL_isPut 123 rfl) 4 5 rfl (by decide) (by decide) (by decide) ?_
        refine jr_st [.int (nI ht), .int 5, .ref bg] (jst1 ((pk_un (by decide)).trans hg5)) ?_
        refine jr_pc (pc' := 201) rfl ?_
        refine jr_iastN CC (jd ddL_isPut 124 rfl) 4 5 rfl (by decide) (by decide) (by decide) ?_
        refine jr_aload_n CC (jd ddL_isPut 125 rfl) 3 rfl ?_
        refine jr_iload_n CC (jd ddL_isPut 126 rfl) 5 rfl ?_
        refine jr_iload_n CC (jd ddL_isPut 127 rfl) 6 rfl ?_
        refine jr_callW (rest := []) [.ref h0, .int 3, .int (nI its)] CC (jd ddL_isPut 128 rfl) (jy_L_194 CC) (k_L_puts3 l t hfl h0 x1 x2 x3 x4 x5 x6 fi e0 e1 e2 e3 pn ht KA DA (nI its) hpn (by first | assumption | omega | decide)) [0, 1, 2, 3] rfl (by decide) rfl rfl (by decide) (Nat.le_of_ble_eq_true rfl) (by rintro v u h; rcases h with ⟨z9_0, rfl, rfl⟩ | ⟨z9_0, rfl, rfl⟩ | ⟨z9_0, rfl, rfl⟩ <;> exact (show ([h0, x4, e0, e1] : List Nat) = [h0, x4, e0, e1] from rfl)) (fun _ _ h => h.elim) (fun _ _ h => h.elim) (fun v u h => ?_)
        rcases h with ⟨c27, rfl, rfl⟩ | ⟨c28, rfl, rfl⟩ | ⟨c29, rfl, rfl⟩
        · exact absurd ((eComb_v (show its < 1000000 by omega) hpn (show ht ≤ 16 by omega)).symm.trans c27) (by rw [if_pos hR, if2 hC]; decide)
        · refine jr_norm [(h0, .inr (9, [.ref x1, .ref x2, .ref x3, .ref x4, .ref x5, .ref x6, .int fi])), (x4, .inr (2, [.ref e0, .ref e1, .ref e2, .ref e3, .int (nI pn), .int (nI ht)])), (e0, .inl (t 0, 16, .inl KA)), (e1, .inl (t 0, 16, .inl DA)), (bg, .inl (t 0, 7, .inl (upd (upd g 4 (nI (pn + 0))) 5 (nI ht))))] [.int (-10)] 208 3 18 rfl rfl rfl rfl rfl ?_
          refine jr_iload CC (jd ddL_isPut 129 rfl) 2 rfl ?_
          refine jr_if_ne 218 CC (jd ddL_isPut 130 rfl) (by decide) (fun _ => ?_) (fun h => absurd h (by decide))
          refine jr_iload CC (jd ddL_isPut 133 rfl) 1 rfl ?_
          refine jr_if_eq 228 CC (jd ddL_isPut 134 rfl) (by decide) (fun _ => ?_) (fun h => absurd h (by decide))
          refine jr_bipush (v := (-10)) CC (jd ddL_isPut 137 rfl) (by decide) ?_
          refine jr_icmp_ne 237 CC (jd ddL_isPut 138 rfl) (by decide) (fun h => absurd h (fun h9 => h9 rfl)) (fun _ => ?_)
          refine jr_iconst (v := 1) CC (jd ddL_isPut 139 rfl) (by decide) ?_
          refine jr_goto 238 CC (jd ddL_isPut 140 rfl) (by decide) ?_
          exact jr_zret rfl CC MM (jd ddL_isPut 142 rfl) rfl (by decide) (by decide) ⟨pn, ht, KA, DA, (upd (upd g 4 (nI (pn + 0))) 5 (nI ht)), putP_of (by omega) (by omega) hDA rfl rfl, rfl, rfl⟩
        · exact absurd ((eComb_v (show its < 1000000 by omega) hpn (show ht ≤ 16 by omega)).symm.trans c29) (by rw [if_pos hR, if2 hC]; decide)
      · have n20 := jle_not (a := 16) (b := pn) c20 (by omega) (by omega)
        refine jr_iload_n CC (jd ddL_isPut 64 rfl) 3 rfl ?_
        refine jr_iconst (v := 2) CC (jd ddL_isPut 65 rfl) (by decide) ?_
        refine jr_icmp_lt 122 CC (jd ddL_isPut 66 rfl) (by decide) (fun h => absurd h (by decide)) (fun _ => ?_)
        refine jr_aload_n CC (jd ddL_isPut 67 rfl) 2 rfl ?_
        refine jr_pc (pc' := 114) rfl ?_
        refine jr_iconst (v := 5) CC (jd ddL_isPut 68 rfl) (by decide) ?_
        refine jr_ialdN CC (jd ddL_isPut 69 rfl) 4 5 rfl (by decide) (by decide) (by decide) ?_
        refine jr_st [.int (nI ht)] (jst1 hg5) ?_
        refine jr_iload_n CC (jd ddL_isPut 70 rfl) 3 rfl ?_
        refine jr_iconst (v := 2) CC (jd ddL_isPut 71 rfl) (by decide) ?_
        refine jr_isub CC (jd ddL_isPut 72 rfl) ?_
        refine jr_st [.int 1, .int (nI ht)] (by rfl) ?_
        refine jr_icmp_le 126 CC (jd ddL_isPut 73 rfl) (by decide) (fun c33 => ?_) (fun c33 => ?_)
        · have n33 := jle_of (a := ht) (b := 1) c33 (by omega) (by omega)
          refine jr_iconst (v := 0) CC (jd ddL_isPut 76 rfl) (by decide) ?_
          refine jr_istore [(5, .int 0), (4, .int 1), (0, .ref h0), (1, .ref bg), (2, .int 3), (3, .int (nI its))] CC (jd ddL_isPut 77 rfl) (by decide) rfl ?_
          refine jr_iload_n CC (jd ddL_isPut 78 rfl) 4 rfl ?_
          refine jr_iconst (v := 2) CC (jd ddL_isPut 79 rfl) (by decide) ?_
          refine jr_pc (pc' := 131) rfl ?_
          refine jr_icmp_ge 142 CC (jd ddL_isPut 80 rfl) (by decide) (fun _ => ?_) (fun h => absurd h (by decide))
          refine jr_iload_n CC (jd ddL_isPut 87 rfl) 4 rfl ?_
          refine jr_iconst (v := 2) CC (jd ddL_isPut 88 rfl) (by decide) ?_
          refine jr_icmp_ne 153 CC (jd ddL_isPut 89 rfl) (by decide) (fun _ => ?_) (fun h => absurd h (by decide))
          refine jr_aload_n CC (jd ddL_isPut 94 rfl) 3 rfl ?_
          refine jr_iconst (v := 5) CC (jd ddL_isPut 95 rfl) (by decide) ?_
          refine jr_ialdN CC (jd ddL_isPut 96 rfl) 4 5 rfl (by decide) (by decide) (by decide) ?_
          refine jr_st [.int (nI ht)] (jst1 hg5) ?_
          refine jr_iconst (v := 1) CC (jd ddL_isPut 97 rfl) (by decide) ?_
          refine jr_isub CC (jd ddL_isPut 98 rfl) ?_
          refine jr_istore [(6, .int ((nI ht) - 1)), (5, .int 0), (4, .int 1), (0, .ref h0), (1, .ref bg), (2, .int 3), (3, .int (nI its))] CC (jd ddL_isPut 99 rfl) (by decide) rfl ?_
          refine jr_pc (pc' := 160) rfl ?_
          refine jr_aload_n CC (jd ddL_isPut 100 rfl) 4 rfl ?_
          refine jr_iconst (v := 4) CC (jd ddL_isPut 101 rfl) (by decide) ?_
          refine jr_dup2 CC (jd ddL_isPut 102 rfl) rfl rfl ?_
          refine jr_ialdN CC (jd ddL_isPut 103 rfl) 4 4 rfl (by decide) (by decide) (by decide) ?_
          refine jr_st [.int (nI pn), .int 4, .ref bg] (jst1 hg4) ?_
          refine jr_iload CC (jd ddL_isPut 104 rfl) 2 rfl ?_
          refine jr_if_eq 178 CC (jd ddL_isPut 105 rfl) (by decide) (fun h => absurd h (by decide)) (fun _ => ?_)
          refine jr_iload CC (jd ddL_isPut 106 rfl) 1 rfl ?_
          refine jr_if_eq 178 CC (jd ddL_isPut 107 rfl) (by decide) (fun _ => ?_) (fun h => absurd h (by decide))
          refine jr_iconst (v := 0) CC (jd ddL_isPut 110 rfl) (by decide) ?_
          refine jr_iadd CC (jd ddL_isPut 111 rfl) ?_
          refine jr_st [.int (nI (pn + 0)), .int 4, .ref bg] (jst1 (nI_add pn 0)) ?_
          refine jr_pc (pc' := 180) rfl ?_
          refine jr_iastN CC (jd ddL_isPut 112 rfl) 4 4 rfl (by decide) (by decide) (by decide) ?_
          refine jr_aload_n CC (jd ddL_isPut 113 rfl) 4 rfl ?_
          refine jr_iconst (v := 5) CC (jd ddL_isPut 114 rfl) (by decide) ?_
          refine jr_iload CC (jd ddL_isPut 115 rfl) 2 rfl ?_
          refine jr_if_eq 198 CC (jd ddL_isPut 116 rfl) (by decide) (fun h => absurd h (by decide)) (fun _ => ?_)
          refine jr_iload CC (jd ddL_isPut 117 rfl) 1 rfl ?_
          refine jr_if_eq 198 CC (jd ddL_isPut 118 rfl) (by decide) (fun _ => ?_) (fun h => absurd h (by decide))
          refine jr_aload_n CC (jd ddL_isPut 121 rfl) 4 rfl ?_
          refine jr_iconst (v := 5) CC (jd ddL_isPut 122 rfl) (by decide) ?_
          refine jr_ialdN CC (jd ddL_isPut 123 rfl) 4 5 rfl (by decide) (by decide) (by decide) ?_
          refine jr_st [.int (nI ht), .int 5, .ref bg] (jst1 ((pk_un (by decide)).trans hg5)) ?_
          refine jr_pc (pc' := 201) rfl ?_
          refine jr_iastN CC (jd ddL_isPut 124 rfl) 4 5 rfl (by decide) (by decide) (by decide) ?_
          refine jr_aload_n CC (jd ddL_isPut 125 rfl) 3 rfl ?_
          refine jr_iload_n CC (jd ddL_isPut 126 rfl) 5 rfl ?_
          refine jr_iload_n CC (jd ddL_isPut 127 rfl) 6 rfl ?_
          refine jr_callW (rest := []) [.ref h0, .int 3, .int (nI its)] CC (jd ddL_isPut 128 rfl) (jy_L_194 CC) (k_L_puts3 l t hfl h0 x1 x2 x3 x4 x5 x6 fi e0 e1 e2 e3 pn ht KA DA (nI its) hpn (by first | assumption | omega | decide)) [0, 1, 2, 3] rfl (by decide) rfl rfl (by decide) (Nat.le_of_ble_eq_true rfl) (by rintro v u h; rcases h with ⟨z9_0, rfl, rfl⟩ | ⟨z9_0, rfl, rfl⟩ | ⟨z9_0, rfl, rfl⟩ <;> exact (show ([h0, x4, e0, e1] : List Nat) = [h0, x4, e0, e1] from rfl)) (fun _ _ h => h.elim) (fun _ _ h => h.elim) (fun v u h => ?_)
          rcases h with ⟨c40, rfl, rfl⟩ | ⟨c41, rfl, rfl⟩ | ⟨c42, rfl, rfl⟩
          · exact absurd ((eComb_v (show its < 1000000 by omega) hpn (show ht ≤ 16 by omega)).symm.trans c40) (by rw [if_pos hR, if2 hC]; decide)
          · refine jr_norm [(h0, .inr (9, [.ref x1, .ref x2, .ref x3, .ref x4, .ref x5, .ref x6, .int fi])), (x4, .inr (2, [.ref e0, .ref e1, .ref e2, .ref e3, .int (nI pn), .int (nI ht)])), (e0, .inl (t 0, 16, .inl KA)), (e1, .inl (t 0, 16, .inl DA)), (bg, .inl (t 0, 7, .inl (upd (upd g 4 (nI (pn + 0))) 5 (nI ht))))] [.int (-10)] 208 3 18 rfl rfl rfl rfl rfl ?_
            refine jr_iload CC (jd ddL_isPut 129 rfl) 2 rfl ?_
            refine jr_if_ne 218 CC (jd ddL_isPut 130 rfl) (by decide) (fun _ => ?_) (fun h => absurd h (by decide))
            refine jr_iload CC (jd ddL_isPut 133 rfl) 1 rfl ?_
            refine jr_if_eq 228 CC (jd ddL_isPut 134 rfl) (by decide) (fun _ => ?_) (fun h => absurd h (by decide))
            refine jr_bipush (v := (-10)) CC (jd ddL_isPut 137 rfl) (by decide) ?_
            refine jr_icmp_ne 237 CC (jd ddL_isPut 138 rfl) (by decide) (fun h => absurd h (fun h9 => h9 rfl)) (fun _ => ?_)
            refine jr_iconst (v := 1) CC (jd ddL_isPut 139 rfl) (by decide) ?_
            refine jr_goto 238 CC (jd ddL_isPut 140 rfl) (by decide) ?_
            exact jr_zret rfl CC MM (jd ddL_isPut 142 rfl) rfl (by decide) (by decide) ⟨pn, ht, KA, DA, (upd (upd g 4 (nI (pn + 0))) 5 (nI ht)), putP_of (by omega) (by omega) hDA rfl rfl, rfl, rfl⟩
          · exact absurd ((eComb_v (show its < 1000000 by omega) hpn (show ht ≤ 16 by omega)).symm.trans c42) (by rw [if_pos hR, if2 hC]; decide)
        · have n33 := jle_not (a := ht) (b := 1) c33 (by omega) (by omega)
          exact absurd (⟨by omega, by omega⟩ : pn < 16 ∧ 2 ≤ ht) hC
  · refine (Classical.em (pn < 16 ∧ 2 ≤ ht)).elim (fun hC => ?_) (fun hC => ?_)
    · refine jr_iload_n CC (jd ddL_isPut 23 rfl) 2 rfl ?_
      refine jr_if_ne 50 CC (jd ddL_isPut 24 rfl) (by decide) (fun _ => ?_) (fun h => absurd h (by decide))
      refine jr_iload_n CC (jd ddL_isPut 32 rfl) 2 rfl ?_
      refine jr_iconst (v := 1) CC (jd ddL_isPut 33 rfl) (by decide) ?_
      refine jr_icmp_ne 70 CC (jd ddL_isPut 34 rfl) (by decide) (fun _ => ?_) (fun h => absurd h (by decide))
      refine jr_iload_n CC (jd ddL_isPut 42 rfl) 2 rfl ?_
      refine jr_iconst (v := 2) CC (jd ddL_isPut 43 rfl) (by decide) ?_
      refine jr_pc (pc' := 72) rfl ?_
      refine jr_icmp_ne 88 CC (jd ddL_isPut 44 rfl) (by decide) (fun _ => ?_) (fun h => absurd h (by decide))
      refine jr_iload_n CC (jd ddL_isPut 52 rfl) 3 rfl ?_
      refine jr_iconst (v := 5) CC (jd ddL_isPut 53 rfl) (by decide) ?_
      refine jr_icmp_ge 97 CC (jd ddL_isPut 54 rfl) (by decide) (fun _ => ?_) (fun h => absurd (nI_le (a := 5) (b := its) (by omega) (by omega)) h)
      refine jr_iconst (v := 0) CC (jd ddL_isPut 57 rfl) (by decide) ?_
      refine jr_istore [(4, .int 0), (0, .ref h0), (1, .ref bg), (2, .int 3), (3, .int (nI its))] CC (jd ddL_isPut 58 rfl) (by decide) rfl ?_
      refine jr_aload_n CC (jd ddL_isPut 59 rfl) 2 rfl ?_
      refine jr_iconst (v := 4) CC (jd ddL_isPut 60 rfl) (by decide) ?_
      refine jr_ialdN CC (jd ddL_isPut 61 rfl) 4 4 rfl (by decide) (by decide) (by decide) ?_
      refine jr_st [.int (nI pn)] (jst1 hg4) ?_
      refine jr_bipush (v := 16) CC (jd ddL_isPut 62 rfl) (by decide) ?_
      refine jr_pc (pc' := 105) rfl ?_
      refine jr_icmp_ge 126 CC (jd ddL_isPut 63 rfl) (by decide) (fun h => absurd h (nI_ge (a := pn) (b := 16) (by omega) (by decide))) (fun _ => ?_)
      refine jr_iload_n CC (jd ddL_isPut 64 rfl) 3 rfl ?_
      refine jr_iconst (v := 2) CC (jd ddL_isPut 65 rfl) (by decide) ?_
      refine jr_icmp_lt 122 CC (jd ddL_isPut 66 rfl) (by decide) (fun h => absurd h (by decide)) (fun _ => ?_)
      refine jr_aload_n CC (jd ddL_isPut 67 rfl) 2 rfl ?_
      refine jr_iconst (v := 5) CC (jd ddL_isPut 68 rfl) (by decide) ?_
      refine jr_ialdN CC (jd ddL_isPut 69 rfl) 4 5 rfl (by decide) (by decide) (by decide) ?_
      refine jr_st [.int (nI ht)] (jst1 hg5) ?_
      refine jr_iload_n CC (jd ddL_isPut 70 rfl) 3 rfl ?_
      refine jr_iconst (v := 2) CC (jd ddL_isPut 71 rfl) (by decide) ?_
      refine jr_isub CC (jd ddL_isPut 72 rfl) ?_
      refine jr_st [.int 1, .int (nI ht)] (by rfl) ?_
      refine jr_pc (pc' := 119) rfl ?_
      refine jr_icmp_le 126 CC (jd ddL_isPut 73 rfl) (by decide) (fun h => absurd h (nI_ge (a := 1) (b := ht) (by omega) (by omega))) (fun _ => ?_)
      refine jr_iconst (v := 1) CC (jd ddL_isPut 74 rfl) (by decide) ?_
      refine jr_goto 127 CC (jd ddL_isPut 75 rfl) (by decide) ?_
      refine jr_istore [(5, .int 1), (4, .int 0), (0, .ref h0), (1, .ref bg), (2, .int 3), (3, .int (nI its))] CC (jd ddL_isPut 77 rfl) (by decide) rfl ?_
      refine jr_iload_n CC (jd ddL_isPut 78 rfl) 4 rfl ?_
      refine jr_iconst (v := 2) CC (jd ddL_isPut 79 rfl) (by decide) ?_
      refine jr_icmp_ge 142 CC (jd ddL_isPut 80 rfl) (by decide) (fun _ => ?_) (fun h => absurd h (by decide))
      refine jr_iload_n CC (jd ddL_isPut 87 rfl) 4 rfl ?_
      refine jr_iconst (v := 2) CC (jd ddL_isPut 88 rfl) (by decide) ?_
      refine jr_icmp_ne 153 CC (jd ddL_isPut 89 rfl) (by decide) (fun _ => ?_) (fun h => absurd h (by decide))
      refine jr_aload_n CC (jd ddL_isPut 94 rfl) 3 rfl ?_
      refine jr_iconst (v := 5) CC (jd ddL_isPut 95 rfl) (by decide) ?_
      refine jr_ialdN CC (jd ddL_isPut 96 rfl) 4 5 rfl (by decide) (by decide) (by decide) ?_
      refine jr_st [.int (nI ht)] (jst1 hg5) ?_
      refine jr_pc (pc' := 156) rfl ?_
      refine jr_iconst (v := 1) CC (jd ddL_isPut 97 rfl) (by decide) ?_
      refine jr_isub CC (jd ddL_isPut 98 rfl) ?_
      refine jr_st [.int (nI (ht - 1))] (by rw [show nI ht - 1 = nI (ht - 1) from pk_sub (a := ht) (b := 1) (by omega)]) ?_
      refine jr_istore [(6, .int (nI (ht - 1))), (5, .int 1), (4, .int 0), (0, .ref h0), (1, .ref bg), (2, .int 3), (3, .int (nI its))] CC (jd ddL_isPut 99 rfl) (by decide) rfl ?_
      refine jr_aload_n CC (jd ddL_isPut 100 rfl) 4 rfl ?_
      refine jr_iconst (v := 4) CC (jd ddL_isPut 101 rfl) (by decide) ?_
      refine jr_dup2 CC (jd ddL_isPut 102 rfl) rfl rfl ?_
      refine jr_ialdN CC (jd ddL_isPut 103 rfl) 4 4 rfl (by decide) (by decide) (by decide) ?_
      refine jr_st [.int (nI pn), .int 4, .ref bg] (jst1 hg4) ?_
      refine jr_iload CC (jd ddL_isPut 104 rfl) 2 rfl ?_
      refine jr_if_eq 178 CC (jd ddL_isPut 105 rfl) (by decide) (fun _ => ?_) (fun h => absurd h (by decide))
      refine jr_iconst (v := 0) CC (jd ddL_isPut 110 rfl) (by decide) ?_
      refine jr_pc (pc' := 179) rfl ?_
      refine jr_iadd CC (jd ddL_isPut 111 rfl) ?_
      refine jr_st [.int (nI (pn + 0)), .int 4, .ref bg] (jst1 (nI_add pn 0)) ?_
      refine jr_iastN CC (jd ddL_isPut 112 rfl) 4 4 rfl (by decide) (by decide) (by decide) ?_
      refine jr_aload_n CC (jd ddL_isPut 113 rfl) 4 rfl ?_
      refine jr_iconst (v := 5) CC (jd ddL_isPut 114 rfl) (by decide) ?_
      refine jr_iload CC (jd ddL_isPut 115 rfl) 2 rfl ?_
      refine jr_if_eq 198 CC (jd ddL_isPut 116 rfl) (by decide) (fun _ => ?_) (fun h => absurd h (by decide))
      refine jr_aload_n CC (jd ddL_isPut 121 rfl) 4 rfl ?_
      refine jr_iconst (v := 5) CC (jd ddL_isPut 122 rfl) (by decide) ?_
      refine jr_ialdN CC (jd ddL_isPut 123 rfl) 4 5 rfl (by decide) (by decide) (by decide) ?_
      refine jr_st [.int (nI ht), .int 5, .ref bg] (jst1 ((pk_un (by decide)).trans hg5)) ?_
      refine jr_iastN CC (jd ddL_isPut 124 rfl) 4 5 rfl (by decide) (by decide) (by decide) ?_
      refine jr_pc (pc' := 202) rfl ?_
      refine jr_aload_n CC (jd ddL_isPut 125 rfl) 3 rfl ?_
      refine jr_iload_n CC (jd ddL_isPut 126 rfl) 5 rfl ?_
      refine jr_iload_n CC (jd ddL_isPut 127 rfl) 6 rfl ?_
      refine jr_callW (rest := []) [.ref h0, .int 3, .int (nI its)] CC (jd ddL_isPut 128 rfl) (jy_L_194 CC) (k_L_puts3 l t hfl h0 x1 x2 x3 x4 x5 x6 fi e0 e1 e2 e3 pn ht KA DA (nI its) hpn (by first | assumption | omega | decide)) [0, 1, 2, 3] rfl (by decide) rfl rfl (by decide) (Nat.le_of_ble_eq_true rfl) (by rintro v u h; rcases h with ⟨z9_0, rfl, rfl⟩ | ⟨z9_0, rfl, rfl⟩ | ⟨z9_0, rfl, rfl⟩ <;> exact (show ([h0, x4, e0, e1] : List Nat) = [h0, x4, e0, e1] from rfl)) (fun _ _ h => h.elim) (fun _ _ h => h.elim) (fun v u h => ?_)
      rcases h with ⟨c53, rfl, rfl⟩ | ⟨c54, rfl, rfl⟩ | ⟨c55, rfl, rfl⟩
      · refine jr_norm [(h0, .inr (9, [.ref x1, .ref x2, .ref x3, .ref x4, .ref x5, .ref x6, .int fi])), (x4, .inr (2, [.ref e0, .ref e1, .ref e2, .ref e3, .int (nI pn), .int (nI ht)])), (e0, .inl (t 0, 16, .inl KA)), (e1, .inl (t 0, 16, .inl DA)), (bg, .inl (t 0, 7, .inl (upd (upd g 4 (nI (pn + 0))) 5 (nI ht))))] [.int (-20)] 208 3 18 rfl rfl rfl rfl rfl ?_
        refine jr_iload CC (jd ddL_isPut 129 rfl) 2 rfl ?_
        refine jr_if_ne 218 CC (jd ddL_isPut 130 rfl) (by decide) (fun h => absurd h (by decide)) (fun _ => ?_)
        refine jr_bipush (v := (-20)) CC (jd ddL_isPut 131 rfl) (by decide) ?_
        refine jr_goto 230 CC (jd ddL_isPut 132 rfl) (by decide) ?_
        refine jr_icmp_ne 237 CC (jd ddL_isPut 138 rfl) (by decide) (fun h => absurd h (fun h9 => h9 rfl)) (fun _ => ?_)
        refine jr_iconst (v := 1) CC (jd ddL_isPut 139 rfl) (by decide) ?_
        refine jr_goto 238 CC (jd ddL_isPut 140 rfl) (by decide) ?_
        exact jr_zret rfl CC MM (jd ddL_isPut 142 rfl) rfl (by decide) (by decide) ⟨pn, ht, KA, DA, (upd (upd g 4 (nI (pn + 0))) 5 (nI ht)), putP_of (by omega) (by omega) hDA rfl rfl, rfl, rfl⟩
      · exact absurd ((eComb_v (show its < 1000000 by omega) hpn (show ht ≤ 16 by omega)).symm.trans c54) (by rw [if_neg hR]; decide)
      · exact absurd ((eComb_v (show its < 1000000 by omega) hpn (show ht ≤ 16 by omega)).symm.trans c55) (by rw [if_neg hR]; decide)
    · refine jr_iload_n CC (jd ddL_isPut 23 rfl) 2 rfl ?_
      refine jr_if_ne 50 CC (jd ddL_isPut 24 rfl) (by decide) (fun _ => ?_) (fun h => absurd h (by decide))
      refine jr_iload_n CC (jd ddL_isPut 32 rfl) 2 rfl ?_
      refine jr_iconst (v := 1) CC (jd ddL_isPut 33 rfl) (by decide) ?_
      refine jr_icmp_ne 70 CC (jd ddL_isPut 34 rfl) (by decide) (fun _ => ?_) (fun h => absurd h (by decide))
      refine jr_iload_n CC (jd ddL_isPut 42 rfl) 2 rfl ?_
      refine jr_iconst (v := 2) CC (jd ddL_isPut 43 rfl) (by decide) ?_
      refine jr_pc (pc' := 72) rfl ?_
      refine jr_icmp_ne 88 CC (jd ddL_isPut 44 rfl) (by decide) (fun _ => ?_) (fun h => absurd h (by decide))
      refine jr_iload_n CC (jd ddL_isPut 52 rfl) 3 rfl ?_
      refine jr_iconst (v := 5) CC (jd ddL_isPut 53 rfl) (by decide) ?_
      refine jr_icmp_ge 97 CC (jd ddL_isPut 54 rfl) (by decide) (fun _ => ?_) (fun h => absurd (nI_le (a := 5) (b := its) (by omega) (by omega)) h)
      refine jr_iconst (v := 0) CC (jd ddL_isPut 57 rfl) (by decide) ?_
      refine jr_istore [(4, .int 0), (0, .ref h0), (1, .ref bg), (2, .int 3), (3, .int (nI its))] CC (jd ddL_isPut 58 rfl) (by decide) rfl ?_
      refine jr_aload_n CC (jd ddL_isPut 59 rfl) 2 rfl ?_
      refine jr_iconst (v := 4) CC (jd ddL_isPut 60 rfl) (by decide) ?_
      refine jr_ialdN CC (jd ddL_isPut 61 rfl) 4 4 rfl (by decide) (by decide) (by decide) ?_
      refine jr_st [.int (nI pn)] (jst1 hg4) ?_
      refine jr_bipush (v := 16) CC (jd ddL_isPut 62 rfl) (by decide) ?_
      refine jr_pc (pc' := 105) rfl ?_
      refine jr_icmp_ge 126 CC (jd ddL_isPut 63 rfl) (by decide) (fun c60 => ?_) (fun c60 => ?_)
      · have n60 := jle_of (a := 16) (b := pn) c60 (by omega) (by omega)
        refine jr_iconst (v := 0) CC (jd ddL_isPut 76 rfl) (by decide) ?_
        refine jr_istore [(5, .int 0), (4, .int 0), (0, .ref h0), (1, .ref bg), (2, .int 3), (3, .int (nI its))] CC (jd ddL_isPut 77 rfl) (by decide) rfl ?_
        refine jr_iload_n CC (jd ddL_isPut 78 rfl) 4 rfl ?_
        refine jr_iconst (v := 2) CC (jd ddL_isPut 79 rfl) (by decide) ?_
        refine jr_icmp_ge 142 CC (jd ddL_isPut 80 rfl) (by decide) (fun _ => ?_) (fun h => absurd h (by decide))
        refine jr_iload_n CC (jd ddL_isPut 87 rfl) 4 rfl ?_
        refine jr_iconst (v := 2) CC (jd ddL_isPut 88 rfl) (by decide) ?_
        refine jr_icmp_ne 153 CC (jd ddL_isPut 89 rfl) (by decide) (fun _ => ?_) (fun h => absurd h (by decide))
        refine jr_aload_n CC (jd ddL_isPut 94 rfl) 3 rfl ?_
        refine jr_pc (pc' := 154) rfl ?_
        refine jr_iconst (v := 5) CC (jd ddL_isPut 95 rfl) (by decide) ?_
        refine jr_ialdN CC (jd ddL_isPut 96 rfl) 4 5 rfl (by decide) (by decide) (by decide) ?_
        refine jr_st [.int (nI ht)] (jst1 hg5) ?_
        refine jr_iconst (v := 1) CC (jd ddL_isPut 97 rfl) (by decide) ?_
        refine jr_isub CC (jd ddL_isPut 98 rfl) ?_
        refine jr_istore [(6, .int ((nI ht) - 1)), (5, .int 0), (4, .int 0), (0, .ref h0), (1, .ref bg), (2, .int 3), (3, .int (nI its))] CC (jd ddL_isPut 99 rfl) (by decide) rfl ?_
        refine jr_aload_n CC (jd ddL_isPut 100 rfl) 4 rfl ?_
        refine jr_iconst (v := 4) CC (jd ddL_isPut 101 rfl) (by decide) ?_
        refine jr_dup2 CC (jd ddL_isPut 102 rfl) rfl rfl ?_
        refine jr_ialdN CC (jd ddL_isPut 103 rfl) 4 4 rfl (by decide) (by decide) (by decide) ?_
        refine jr_st [.int (nI pn), .int 4, .ref bg] (jst1 hg4) ?_
        refine jr_iload CC (jd ddL_isPut 104 rfl) 2 rfl ?_
        refine jr_pc (pc' := 166) rfl ?_
        refine jr_if_eq 178 CC (jd ddL_isPut 105 rfl) (by decide) (fun _ => ?_) (fun h => absurd h (by decide))
        refine jr_iconst (v := 0) CC (jd ddL_isPut 110 rfl) (by decide) ?_
        refine jr_iadd CC (jd ddL_isPut 111 rfl) ?_
        refine jr_st [.int (nI (pn + 0)), .int 4, .ref bg] (jst1 (nI_add pn 0)) ?_
        refine jr_iastN CC (jd ddL_isPut 112 rfl) 4 4 rfl (by decide) (by decide) (by decide) ?_
        refine jr_aload_n CC (jd ddL_isPut 113 rfl) 4 rfl ?_
        refine jr_iconst (v := 5) CC (jd ddL_isPut 114 rfl) (by decide) ?_
        refine jr_iload CC (jd ddL_isPut 115 rfl) 2 rfl ?_
        refine jr_if_eq 198 CC (jd ddL_isPut 116 rfl) (by decide) (fun _ => ?_) (fun h => absurd h (by decide))
        refine jr_aload_n CC (jd ddL_isPut 121 rfl) 4 rfl ?_
        refine jr_iconst (v := 5) CC (jd ddL_isPut 122 rfl) (by decide) ?_
        refine jr_pc (pc' := 200) rfl ?_
        refine jr_ialdN CC (jd ddL_isPut 123 rfl) 4 5 rfl (by decide) (by decide) (by decide) ?_
        refine jr_st [.int (nI ht), .int 5, .ref bg] (jst1 ((pk_un (by decide)).trans hg5)) ?_
        refine jr_iastN CC (jd ddL_isPut 124 rfl) 4 5 rfl (by decide) (by decide) (by decide) ?_
        refine jr_aload_n CC (jd ddL_isPut 125 rfl) 3 rfl ?_
        refine jr_iload_n CC (jd ddL_isPut 126 rfl) 5 rfl ?_
        refine jr_iload_n CC (jd ddL_isPut 127 rfl) 6 rfl ?_
        refine jr_callW (rest := []) [.ref h0, .int 3, .int (nI its)] CC (jd ddL_isPut 128 rfl) (jy_L_194 CC) (k_L_puts3 l t hfl h0 x1 x2 x3 x4 x5 x6 fi e0 e1 e2 e3 pn ht KA DA (nI its) hpn (by first | assumption | omega | decide)) [0, 1, 2, 3] rfl (by decide) rfl rfl (by decide) (Nat.le_of_ble_eq_true rfl) (by rintro v u h; rcases h with ⟨z9_0, rfl, rfl⟩ | ⟨z9_0, rfl, rfl⟩ | ⟨z9_0, rfl, rfl⟩ <;> exact (show ([h0, x4, e0, e1] : List Nat) = [h0, x4, e0, e1] from rfl)) (fun _ _ h => h.elim) (fun _ _ h => h.elim) (fun v u h => ?_)
        rcases h with ⟨c65, rfl, rfl⟩ | ⟨c66, rfl, rfl⟩ | ⟨c67, rfl, rfl⟩
        · refine jr_norm [(h0, .inr (9, [.ref x1, .ref x2, .ref x3, .ref x4, .ref x5, .ref x6, .int fi])), (x4, .inr (2, [.ref e0, .ref e1, .ref e2, .ref e3, .int (nI pn), .int (nI ht)])), (e0, .inl (t 0, 16, .inl KA)), (e1, .inl (t 0, 16, .inl DA)), (bg, .inl (t 0, 7, .inl (upd (upd g 4 (nI (pn + 0))) 5 (nI ht))))] [.int (-20)] 208 3 18 rfl rfl rfl rfl rfl ?_
          refine jr_iload CC (jd ddL_isPut 129 rfl) 2 rfl ?_
          refine jr_if_ne 218 CC (jd ddL_isPut 130 rfl) (by decide) (fun h => absurd h (by decide)) (fun _ => ?_)
          refine jr_bipush (v := (-20)) CC (jd ddL_isPut 131 rfl) (by decide) ?_
          refine jr_goto 230 CC (jd ddL_isPut 132 rfl) (by decide) ?_
          refine jr_icmp_ne 237 CC (jd ddL_isPut 138 rfl) (by decide) (fun h => absurd h (fun h9 => h9 rfl)) (fun _ => ?_)
          refine jr_iconst (v := 1) CC (jd ddL_isPut 139 rfl) (by decide) ?_
          refine jr_goto 238 CC (jd ddL_isPut 140 rfl) (by decide) ?_
          exact jr_zret rfl CC MM (jd ddL_isPut 142 rfl) rfl (by decide) (by decide) ⟨pn, ht, KA, DA, (upd (upd g 4 (nI (pn + 0))) 5 (nI ht)), putP_of (by omega) (by omega) hDA rfl rfl, rfl, rfl⟩
        · exact absurd ((eComb_v (show its < 1000000 by omega) hpn (show ht ≤ 16 by omega)).symm.trans c66) (by rw [if_neg hR]; decide)
        · exact absurd ((eComb_v (show its < 1000000 by omega) hpn (show ht ≤ 16 by omega)).symm.trans c67) (by rw [if_neg hR]; decide)
      · have n60 := jle_not (a := 16) (b := pn) c60 (by omega) (by omega)
        refine jr_iload_n CC (jd ddL_isPut 64 rfl) 3 rfl ?_
        refine jr_iconst (v := 2) CC (jd ddL_isPut 65 rfl) (by decide) ?_
        refine jr_icmp_lt 122 CC (jd ddL_isPut 66 rfl) (by decide) (fun h => absurd h (by decide)) (fun _ => ?_)
        refine jr_aload_n CC (jd ddL_isPut 67 rfl) 2 rfl ?_
        refine jr_iconst (v := 5) CC (jd ddL_isPut 68 rfl) (by decide) ?_
        refine jr_ialdN CC (jd ddL_isPut 69 rfl) 4 5 rfl (by decide) (by decide) (by decide) ?_
        refine jr_st [.int (nI ht)] (jst1 hg5) ?_
        refine jr_iload_n CC (jd ddL_isPut 70 rfl) 3 rfl ?_
        refine jr_iconst (v := 2) CC (jd ddL_isPut 71 rfl) (by decide) ?_
        refine jr_isub CC (jd ddL_isPut 72 rfl) ?_
        refine jr_st [.int 1, .int (nI ht)] (by rfl) ?_
        refine jr_pc (pc' := 119) rfl ?_
        refine jr_icmp_le 126 CC (jd ddL_isPut 73 rfl) (by decide) (fun c70 => ?_) (fun c70 => ?_)
        · have n70 := jle_of (a := ht) (b := 1) c70 (by omega) (by omega)
          refine jr_iconst (v := 0) CC (jd ddL_isPut 76 rfl) (by decide) ?_
          refine jr_istore [(5, .int 0), (4, .int 0), (0, .ref h0), (1, .ref bg), (2, .int 3), (3, .int (nI its))] CC (jd ddL_isPut 77 rfl) (by decide) rfl ?_
          refine jr_iload_n CC (jd ddL_isPut 78 rfl) 4 rfl ?_
          refine jr_iconst (v := 2) CC (jd ddL_isPut 79 rfl) (by decide) ?_
          refine jr_icmp_ge 142 CC (jd ddL_isPut 80 rfl) (by decide) (fun _ => ?_) (fun h => absurd h (by decide))
          refine jr_iload_n CC (jd ddL_isPut 87 rfl) 4 rfl ?_
          refine jr_iconst (v := 2) CC (jd ddL_isPut 88 rfl) (by decide) ?_
          refine jr_icmp_ne 153 CC (jd ddL_isPut 89 rfl) (by decide) (fun _ => ?_) (fun h => absurd h (by decide))
          refine jr_aload_n CC (jd ddL_isPut 94 rfl) 3 rfl ?_
          refine jr_pc (pc' := 154) rfl ?_
          refine jr_iconst (v := 5) CC (jd ddL_isPut 95 rfl) (by decide) ?_
          refine jr_ialdN CC (jd ddL_isPut 96 rfl) 4 5 rfl (by decide) (by decide) (by decide) ?_
          refine jr_st [.int (nI ht)] (jst1 hg5) ?_
          refine jr_iconst (v := 1) CC (jd ddL_isPut 97 rfl) (by decide) ?_
          refine jr_isub CC (jd ddL_isPut 98 rfl) ?_
          refine jr_istore [(6, .int ((nI ht) - 1)), (5, .int 0), (4, .int 0), (0, .ref h0), (1, .ref bg), (2, .int 3), (3, .int (nI its))] CC (jd ddL_isPut 99 rfl) (by decide) rfl ?_
          refine jr_aload_n CC (jd ddL_isPut 100 rfl) 4 rfl ?_
          refine jr_iconst (v := 4) CC (jd ddL_isPut 101 rfl) (by decide) ?_
          refine jr_dup2 CC (jd ddL_isPut 102 rfl) rfl rfl ?_
          refine jr_ialdN CC (jd ddL_isPut 103 rfl) 4 4 rfl (by decide) (by decide) (by decide) ?_
          refine jr_st [.int (nI pn), .int 4, .ref bg] (jst1 hg4) ?_
          refine jr_iload CC (jd ddL_isPut 104 rfl) 2 rfl ?_
          refine jr_pc (pc' := 166) rfl ?_
          refine jr_if_eq 178 CC (jd ddL_isPut 105 rfl) (by decide) (fun _ => ?_) (fun h => absurd h (by decide))
          refine jr_iconst (v := 0) CC (jd ddL_isPut 110 rfl) (by decide) ?_
          refine jr_iadd CC (jd ddL_isPut 111 rfl) ?_
          refine jr_st [.int (nI (pn + 0)), .int 4, .ref bg] (jst1 (nI_add pn 0)) ?_
          refine jr_iastN CC (jd ddL_isPut 112 rfl) 4 4 rfl (by decide) (by decide) (by decide) ?_
          refine jr_aload_n CC (jd ddL_isPut 113 rfl) 4 rfl ?_
          refine jr_iconst (v := 5) CC (jd ddL_isPut 114 rfl) (by decide) ?_
          refine jr_iload CC (jd ddL_isPut 115 rfl) 2 rfl ?_
          refine jr_if_eq 198 CC (jd ddL_isPut 116 rfl) (by decide) (fun _ => ?_) (fun h => absurd h (by decide))
          refine jr_aload_n CC (jd ddL_isPut 121 rfl) 4 rfl ?_
          refine jr_iconst (v := 5) CC (jd ddL_isPut 122 rfl) (by decide) ?_
          refine jr_pc (pc' := 200) rfl ?_
          refine jr_ialdN CC (jd ddL_isPut 123 rfl) 4 5 rfl (by decide) (by decide) (by decide) ?_
          refine jr_st [.int (nI ht), .int 5, .ref bg] (jst1 ((pk_un (by decide)).trans hg5)) ?_
          refine jr_iastN CC (jd ddL_isPut 124 rfl) 4 5 rfl (by decide) (by decide) (by decide) ?_
          refine jr_aload_n CC (jd ddL_isPut 125 rfl) 3 rfl ?_
          refine jr_iload_n CC (jd ddL_isPut 126 rfl) 5 rfl ?_
          refine jr_iload_n CC (jd ddL_isPut 127 rfl) 6 rfl ?_
          refine jr_callW (rest := []) [.ref h0, .int 3, .int (nI its)] CC (jd ddL_isPut 128 rfl) (jy_L_194 CC) (k_L_puts3 l t hfl h0 x1 x2 x3 x4 x5 x6 fi e0 e1 e2 e3 pn ht KA DA (nI its) hpn (by first | assumption | omega | decide)) [0, 1, 2, 3] rfl (by decide) rfl rfl (by decide) (Nat.le_of_ble_eq_true rfl) (by rintro v u h; rcases h with ⟨z9_0, rfl, rfl⟩ | ⟨z9_0, rfl, rfl⟩ | ⟨z9_0, rfl, rfl⟩ <;> exact (show ([h0, x4, e0, e1] : List Nat) = [h0, x4, e0, e1] from rfl)) (fun _ _ h => h.elim) (fun _ _ h => h.elim) (fun v u h => ?_)
          rcases h with ⟨c75, rfl, rfl⟩ | ⟨c76, rfl, rfl⟩ | ⟨c77, rfl, rfl⟩
          · refine jr_norm [(h0, .inr (9, [.ref x1, .ref x2, .ref x3, .ref x4, .ref x5, .ref x6, .int fi])), (x4, .inr (2, [.ref e0, .ref e1, .ref e2, .ref e3, .int (nI pn), .int (nI ht)])), (e0, .inl (t 0, 16, .inl KA)), (e1, .inl (t 0, 16, .inl DA)), (bg, .inl (t 0, 7, .inl (upd (upd g 4 (nI (pn + 0))) 5 (nI ht))))] [.int (-20)] 208 3 18 rfl rfl rfl rfl rfl ?_
            refine jr_iload CC (jd ddL_isPut 129 rfl) 2 rfl ?_
            refine jr_if_ne 218 CC (jd ddL_isPut 130 rfl) (by decide) (fun h => absurd h (by decide)) (fun _ => ?_)
            refine jr_bipush (v := (-20)) CC (jd ddL_isPut 131 rfl) (by decide) ?_
            refine jr_goto 230 CC (jd ddL_isPut 132 rfl) (by decide) ?_
            refine jr_icmp_ne 237 CC (jd ddL_isPut 138 rfl) (by decide) (fun h => absurd h (fun h9 => h9 rfl)) (fun _ => ?_)
            refine jr_iconst (v := 1) CC (jd ddL_isPut 139 rfl) (by decide) ?_
            refine jr_goto 238 CC (jd ddL_isPut 140 rfl) (by decide) ?_
            exact jr_zret rfl CC MM (jd ddL_isPut 142 rfl) rfl (by decide) (by decide) ⟨pn, ht, KA, DA, (upd (upd g 4 (nI (pn + 0))) 5 (nI ht)), putP_of (by omega) (by omega) hDA rfl rfl, rfl, rfl⟩
          · exact absurd ((eComb_v (show its < 1000000 by omega) hpn (show ht ≤ 16 by omega)).symm.trans c76) (by rw [if_neg hR]; decide)
          · exact absurd ((eComb_v (show its < 1000000 by omega) hpn (show ht ≤ 16 by omega)).symm.trans c77) (by rw [if_neg hR]; decide)
        · have n70 := jle_not (a := ht) (b := 1) c70 (by omega) (by omega)
          exact absurd (⟨by omega, by omega⟩ : pn < 16 ∧ 2 ≤ ht) hC
