set_option maxHeartbeats 8000000 in
set_option maxRecDepth 100000 in
theorem k_X11_puts (l : Launch) (t : Nat → ClassId) (hfl : l.stackTraces = false) (m0 : Nat) (mb : Nat → Nat) (R : Nat → Int32) (PT : Nat → Int32) (ON : Nat → Int32) (TW : Nat → Int32) (SK : Nat → Int32) (pn : Nat) (dn : Nat) (wh : Int32) (a : Int32) (b : Int32) (hpn : R 37 = nI pn) (hdn : R 41 = nI dn) (hp9 : pn < 16) (hd9 : dn < 16) : jKx l t yX11_puts (Cond.code yX11_puts cX11_puts 4 (some .int) :: jWS) { frames := 0, cells := 0, slots := 0, locals := 0 } [.ref m0, .int wh, .int a, .int b] [(m0, .inr (10, jmdl R mb)), ((mb 8), .inl (t 0, 16, .inl PT)), ((mb 9), .inl (t 0, 16, .inl ON)), ((mb 10), .inl (t 0, 16, .inl TW)), ((mb 11), .inl (t 0, 16, .inl SK))] (fun vv uu => (vv = some (.int (nI (dn + 1))) ∧ uu = [(m0, .inr (10, jmdl (upd (upd R 41 (nI (dn + 1))) 37 (nI (pn + 1))) mb)), ((mb 8), .inl (t 0, 16, .inl (upd PT pn wh))), ((mb 9), .inl (t 0, 16, .inl (upd ON pn a))), ((mb 10), .inl (t 0, 16, .inl (upd TW pn b))), ((mb 11), .inl (t 0, 16, .inl (upd SK dn (nI pn))))])) (fun _ _ => False) := by
  refine jK_of hfl (by decide +kernel) (Nat.le_of_ble_eq_true rfl) ?_
  intro p e s m args below meth c D A Q CC MM
  refine jr_norm0 [(0, .ref m0), (1, .int wh), (2, .int a), (3, .int b)] rfl ?_
  refine jr_aload_n CC (jd ddX11_puts 0 rfl) 0 rfl ?_
  refine jr_get (v := .ref (mb 8)) CC (jd ddX11_puts 1 rfl) (jf_X11_49 CC) 0 rfl rfl ?_
  refine jr_aload_n CC (jd ddX11_puts 2 rfl) 0 rfl ?_
  refine jr_get (v := .int (R 37)) CC (jd ddX11_puts 3 rfl) (jf_X11_205 CC) 0 rfl rfl ?_
  refine jr_st [.int (nI pn), .ref (mb 8)] (jst1 hpn) ?_
  refine jr_iload_n CC (jd ddX11_puts 4 rfl) 1 rfl ?_
  refine jr_iastN CC (jd ddX11_puts 5 rfl) 1 pn rfl rfl (by omega) (by decide) ?_
  refine jr_aload_n CC (jd ddX11_puts 6 rfl) 0 rfl ?_
  refine jr_get (v := .ref (mb 9)) CC (jd ddX11_puts 7 rfl) (jf_X11_52 CC) 0 rfl rfl ?_
  refine jr_aload_n CC (jd ddX11_puts 8 rfl) 0 rfl ?_
  refine jr_get (v := .int (R 37)) CC (jd ddX11_puts 9 rfl) (jf_X11_205 CC) 0 rfl rfl ?_
  refine jr_st [.int (nI pn), .ref (mb 9)] (jst1 hpn) ?_
  refine jr_pc (pc' := 18) rfl ?_
  refine jr_iload_n CC (jd ddX11_puts 10 rfl) 2 rfl ?_
  refine jr_iastN CC (jd ddX11_puts 11 rfl) 2 pn rfl rfl (by omega) (by decide) ?_
  refine jr_aload_n CC (jd ddX11_puts 12 rfl) 0 rfl ?_
  refine jr_get (v := .ref (mb 10)) CC (jd ddX11_puts 13 rfl) (jf_X11_55 CC) 0 rfl rfl ?_
  refine jr_aload_n CC (jd ddX11_puts 14 rfl) 0 rfl ?_
  refine jr_get (v := .int (R 37)) CC (jd ddX11_puts 15 rfl) (jf_X11_205 CC) 0 rfl rfl ?_
  refine jr_st [.int (nI pn), .ref (mb 10)] (jst1 hpn) ?_
  refine jr_iload_n CC (jd ddX11_puts 16 rfl) 3 rfl ?_
  refine jr_iastN CC (jd ddX11_puts 17 rfl) 3 pn rfl rfl (by omega) (by decide) ?_
  refine jr_aload_n CC (jd ddX11_puts 18 rfl) 0 rfl ?_
  refine jr_get (v := .ref (mb 11)) CC (jd ddX11_puts 19 rfl) (jf_X11_58 CC) 0 rfl rfl ?_
  refine jr_pc (pc' := 34) rfl ?_
  refine jr_aload_n CC (jd ddX11_puts 20 rfl) 0 rfl ?_
  refine jr_get (v := .int (R 41)) CC (jd ddX11_puts 21 rfl) (jf_X11_208 CC) 0 rfl rfl ?_
  refine jr_st [.int (nI dn), .ref (mb 11)] (jst1 hdn) ?_
  refine jr_aload_n CC (jd ddX11_puts 22 rfl) 0 rfl ?_
  refine jr_get (v := .int (R 37)) CC (jd ddX11_puts 23 rfl) (jf_X11_205 CC) 0 rfl rfl ?_
  refine jr_st [.int (nI pn), .int (nI dn), .ref (mb 11)] (jst1 hpn) ?_
  refine jr_iastN CC (jd ddX11_puts 24 rfl) 4 dn rfl rfl (by omega) (by decide) ?_
  refine jr_aload_n CC (jd ddX11_puts 25 rfl) 0 rfl ?_
  refine jr_dup CC (jd ddX11_puts 26 rfl) rfl ?_
  refine jr_get (v := .int (R 41)) CC (jd ddX11_puts 27 rfl) (jf_X11_208 CC) 0 rfl rfl ?_
  refine jr_st [.int (nI dn), .ref m0] (jst1 hdn) ?_
  refine jr_iconst (v := 1) CC (jd ddX11_puts 28 rfl) (by decide) ?_
  refine jr_iadd CC (jd ddX11_puts 29 rfl) ?_
  refine jr_st [.int (nI (dn + 1)), .ref m0] (jst1 (nI_add dn 1)) ?_
  refine jr_pc (pc' := 50) rfl ?_
  refine jr_put CC (jd ddX11_puts 30 rfl) (jf_X11_208 CC) 0 rfl rfl rfl (Nat.le_of_ble_eq_true rfl) ?_
  refine jr_ws [(m0, .inr (10, jmdl (upd R 41 (nI (dn + 1))) mb)), ((mb 8), .inl (t 0, 16, .inl (upd PT pn wh))), ((mb 9), .inl (t 0, 16, .inl (upd ON pn a))), ((mb 10), .inl (t 0, 16, .inl (upd TW pn b))), ((mb 11), .inl (t 0, 16, .inl (upd SK dn (nI pn))))] rfl ?_
  refine jr_aload_n CC (jd ddX11_puts 31 rfl) 0 rfl ?_
  refine jr_dup CC (jd ddX11_puts 32 rfl) rfl ?_
  refine jr_get (v := .int (R 37)) CC (jd ddX11_puts 33 rfl) (jf_X11_205 CC) 0 rfl rfl ?_
  refine jr_st [.int (nI pn), .ref m0] (jst1 hpn) ?_
  refine jr_iconst (v := 1) CC (jd ddX11_puts 34 rfl) (by decide) ?_
  refine jr_iadd CC (jd ddX11_puts 35 rfl) ?_
  refine jr_st [.int (nI (pn + 1)), .ref m0] (jst1 (nI_add pn 1)) ?_
  refine jr_put CC (jd ddX11_puts 36 rfl) (jf_X11_205 CC) 0 rfl rfl rfl (Nat.le_of_ble_eq_true rfl) ?_
  refine jr_ws [(m0, .inr (10, jmdl (upd (upd R 41 (nI (dn + 1))) 37 (nI (pn + 1))) mb)), ((mb 8), .inl (t 0, 16, .inl (upd PT pn wh))), ((mb 9), .inl (t 0, 16, .inl (upd ON pn a))), ((mb 10), .inl (t 0, 16, .inl (upd TW pn b))), ((mb 11), .inl (t 0, 16, .inl (upd SK dn (nI pn))))] rfl ?_
  refine jr_aload_n CC (jd ddX11_puts 37 rfl) 0 rfl ?_
  refine jr_get (v := .int (nI (dn + 1))) CC (jd ddX11_puts 38 rfl) (jf_X11_208 CC) 0 rfl rfl ?_
  exact jr_iret CC MM (jd ddX11_puts 39 rfl) rfl (by decide) (by decide) ⟨rfl, rfl⟩
theorem jle1 (a : Nat) (h : a < 2147483648) : (1 : Int32) ≤ nI a ↔ 1 ≤ a := nI_leI (a := 1) (b := a) (by decide) h
theorem jle2 (a : Nat) (h : a < 2147483648) : (2 : Int32) ≤ nI a ↔ 2 ≤ a := nI_leI (a := 2) (b := a) (by decide) h
theorem jlt16 (a : Nat) (h : a < 2147483648) : nI a < (16 : Int32) ↔ a < 16 := nI_ltI (a := a) (b := 16) h (by decide)
theorem ePutC_m (ch : Int32) (pn : Nat) (h : pn ≤ 16) : ePutC ch (nI pn) = if mIn ch 0 1 = 0 then 1 else if pn = 16 then 2 else 0 := by
  unfold ePutC
  simp only [jin_iff, jlt16 pn (by omega)]
  by_cases h1 : mIn ch 0 1 = 0
  · simp [h1, jI]
  · by_cases h2 : pn = 16
    · simp [h1, h2, jI]
    · simp [h1, h2, jI, show pn < 16 by omega]
theorem ePutK_m (v : Int32) (pn : Nat) (h : pn ≤ 16) : ePutK v (nI pn) = if mIn v (-1000) 1000 = 0 then 1 else if pn = 16 then 2 else 0 := by
  unfold ePutK
  simp only [jin_iff, jlt16 pn (by omega)]
  by_cases h1 : mIn v (-1000) 1000 = 0
  · simp [h1, jI]
  · by_cases h2 : pn = 16
    · simp [h1, h2, jI]
    · simp [h1, h2, jI, show pn < 16 by omega]
theorem eApply_m (o : Int32) (pn dn : Nat) (h : pn ≤ 16) (h2 : dn ≤ 16) : eApply o (nI pn) (nI dn) = if mIn o 0 3 = 0 then 1 else if pn = 16 then 2 else if dn = 0 then 2 else 0 := by
  unfold eApply
  simp only [jin_iff, jlt16 pn (by omega), jle1 dn (by omega)]
  by_cases h1 : mIn o 0 3 = 0
  · simp [h1, jI]
  · by_cases h2 : pn = 16
    · simp [h1, h2, jI]
    · by_cases h3 : dn = 0
      · simp [h1, h2, h3, jI, show pn < 16 by omega]
      · simp [h1, h2, h3, jI, show pn < 16 by omega, show 1 ≤ dn by omega]
theorem eComb_m (o : Int32) (pn dn : Nat) (h : pn ≤ 16) (h2 : dn ≤ 16) : eComb o (nI pn) (nI dn) = if mIn o 0 4 = 0 then 1 else if pn = 16 then 2 else if dn < 2 then 2 else 0 := by
  unfold eComb
  simp only [jin_iff, jlt16 pn (by omega), jle2 dn (by omega)]
  by_cases h1 : mIn o 0 4 = 0
  · simp [h1, jI]
  · by_cases h2 : pn = 16
    · simp [h1, h2, jI]
    · by_cases h3 : dn < 2
      · simp [h1, h2, h3, jI, show pn < 16 by omega, show ¬ 2 ≤ dn by omega]
      · simp [h1, h2, h3, jI, show pn < 16 by omega, show 2 ≤ dn by omega]
set_option maxHeartbeats 8000000 in
set_option maxRecDepth 100000 in
theorem k_X11_putChannel (l : Launch) (t : Nat → ClassId) (hfl : l.stackTraces = false) (m0 : Nat) (mb : Nat → Nat) (R : Nat → Int32) (PT : Nat → Int32) (ON : Nat → Int32) (TW : Nat → Int32) (SK : Nat → Int32) (pn : Nat) (dn : Nat) (d : Int32) (hpn : R 37 = nI pn) (hdn : R 41 = nI dn) (hp9 : pn ≤ 16) (hd9 : dn ≤ pn) : jKx l t yX11_putChannel (Cond.code yX11_putChannel cX11_putChannel 2 (some .int) :: jWS) { frames := 1, cells := 0, slots := 0, locals := 23 } [.ref m0, .int d] [(m0, .inr (10, jmdl R mb)), ((mb 8), .inl (t 0, 16, .inl PT)), ((mb 9), .inl (t 0, 16, .inl ON)), ((mb 10), .inl (t 0, 16, .inl TW)), ((mb 11), .inl (t 0, 16, .inl SK))] (fun vv uu => (((ePutC d (nI pn)) = 0) ∧ vv = some (.int (nI (dn + 1))) ∧ uu = [(m0, .inr (10, jmdl (upd (upd (upd R 44 0) 41 (nI (dn + 1))) 37 (nI (pn + 1))) mb)), ((mb 8), .inl (t 0, 16, .inl (upd PT pn d))), ((mb 9), .inl (t 0, 16, .inl (upd ON pn 0))), ((mb 10), .inl (t 0, 16, .inl (upd TW pn 0))), ((mb 11), .inl (t 0, 16, .inl (upd SK (dn) (nI pn))))]) ∨ (((ePutC d (nI pn)) = 1) ∧ vv = some (.int 0) ∧ uu = [(m0, .inr (10, jmdl (upd R 44 1) mb)), ((mb 8), .inl (t 0, 16, .inl PT)), ((mb 9), .inl (t 0, 16, .inl ON)), ((mb 10), .inl (t 0, 16, .inl TW)), ((mb 11), .inl (t 0, 16, .inl SK))]) ∨ (((ePutC d (nI pn)) = 2) ∧ vv = some (.int 0) ∧ uu = [(m0, .inr (10, jmdl (upd R 44 2) mb)), ((mb 8), .inl (t 0, 16, .inl PT)), ((mb 9), .inl (t 0, 16, .inl ON)), ((mb 10), .inl (t 0, 16, .inl TW)), ((mb 11), .inl (t 0, 16, .inl SK))])) (fun _ _ => False) := by
  refine jK_of hfl (by decide +kernel) (Nat.le_of_ble_eq_true rfl) ?_
  intro p e s m args below meth c D A Q CC MM
  refine jr_norm0 [(0, .ref m0), (1, .int d)] rfl ?_
  refine jr_aload_n CC (jd ddX11_putChannel 0 rfl) 0 rfl ?_
  refine jr_iload_n CC (jd ddX11_putChannel 1 rfl) 1 rfl ?_
  refine jr_iconst (v := 0) CC (jd ddX11_putChannel 2 rfl) (by decide) ?_
  refine jr_iconst (v := 1) CC (jd ddX11_putChannel 3 rfl) (by decide) ?_
  refine jr_callS (rest := [.ref m0]) [.int d, .int 0, .int 1] CC (jd ddX11_putChannel 4 rfl) (jy_X11_67 CC) (k_X11_isIn l t hfl d 0 1) [] rfl (by decide) rfl rfl (by decide) (Nat.le_of_ble_eq_true rfl) (by rintro v u h; rcases h with ⟨rfl, rfl⟩ <;> rfl) (fun _ _ h => h.elim) (fun _ _ h => h.elim) (fun v u h => ?_)
  rcases h with ⟨rfl, rfl⟩
  refine jr_norm [(m0, .inr (10, jmdl R mb)), ((mb 8), .inl (t 0, 16, .inl PT)), ((mb 9), .inl (t 0, 16, .inl ON)), ((mb 10), .inl (t 0, 16, .inl TW)), ((mb 11), .inl (t 0, 16, .inl SK))] [.int (mIn d 0 1), .ref m0] 7 0 0 rfl rfl rfl rfl rfl ?_
  refine jr_if_ne 14 CC (jd ddX11_putChannel 5 rfl) (by decide) (fun c1 => ?_) (fun c1 => ?_)
  · refine jr_aload_n CC (jd ddX11_putChannel 8 rfl) 0 rfl ?_
    refine jr_get (v := .int (R 37)) CC (jd ddX11_putChannel 9 rfl) (jf_X11_205 CC) 0 rfl rfl ?_
    refine jr_st [.int (nI pn), .ref m0] (jst1 hpn) ?_
    refine jr_bipush (v := 16) CC (jd ddX11_putChannel 10 rfl) (by decide) ?_
    refine jr_icmp_ne 27 CC (jd ddX11_putChannel 11 rfl) (by decide) (fun c2 => ?_) (fun c2 => ?_)
    · have n2 := jeq_not (a := pn) (b := 16) c2 (by omega) (by omega)
      refine jr_iconst (v := 0) CC (jd ddX11_putChannel 14 rfl) (by decide) ?_
      refine jr_callV (q0 := 0) (rest := []) [.int 0] CC (jd ddX11_putChannel 15 rfl) (jy_X11_111 CC) (k_X11_fails_0 l t hfl m0 mb R) [0] rfl (by decide) rfl rfl rfl rfl (by decide) (Nat.le_of_ble_eq_true rfl) (by rintro v u h; rcases h with ⟨rfl, rfl⟩ <;> exact (show ([m0] : List Nat) = [m0] from rfl)) (fun _ _ h => h.elim) (fun _ _ h => h.elim) (fun v u h => ?_)
      rcases h with ⟨rfl, rfl⟩
      refine jr_norm [(m0, .inr (10, jmdl (upd R 44 0) mb)), ((mb 8), .inl (t 0, 16, .inl PT)), ((mb 9), .inl (t 0, 16, .inl ON)), ((mb 10), .inl (t 0, 16, .inl TW)), ((mb 11), .inl (t 0, 16, .inl SK))] [.int 0] 31 0 0 rfl rfl rfl rfl rfl ?_
      refine jr_if_eq 38 CC (jd ddX11_putChannel 16 rfl) (by decide) (fun _ => ?_) (fun h => absurd h (by decide))
      refine jr_aload_n CC (jd ddX11_putChannel 19 rfl) 0 rfl ?_
      refine jr_iload_n CC (jd ddX11_putChannel 20 rfl) 1 rfl ?_
      refine jr_iconst (v := 0) CC (jd ddX11_putChannel 21 rfl) (by decide) ?_
      refine jr_iconst (v := 0) CC (jd ddX11_putChannel 22 rfl) (by decide) ?_
      refine jr_callV (q0 := 0) (rest := []) [.int d, .int 0, .int 0] CC (jd ddX11_putChannel 23 rfl) (jy_X11_211 CC) (k_X11_puts l t hfl m0 mb (upd R 44 0) PT ON TW SK pn dn d 0 0 (by simp [upd, hpn]) (by simp [upd, hdn]) (by first | assumption | omega | decide) (by first | assumption | omega | decide)) [0, 1, 2, 3, 4] rfl (by decide) rfl rfl rfl rfl (by decide) (Nat.le_of_ble_eq_true rfl) (by rintro v u h; rcases h with ⟨rfl, rfl⟩ <;> exact (show ([m0, (mb 8), (mb 9), (mb 10), (mb 11)] : List Nat) = [m0, (mb 8), (mb 9), (mb 10), (mb 11)] from rfl)) (fun _ _ h => h.elim) (fun _ _ h => h.elim) (fun v u h => ?_)
      rcases h with ⟨rfl, rfl⟩
      refine jr_norm [(m0, .inr (10, jmdl (upd (upd (upd R 44 0) 41 (nI (dn + 1))) 37 (nI (pn + 1))) mb)), ((mb 8), .inl (t 0, 16, .inl (upd PT pn d))), ((mb 9), .inl (t 0, 16, .inl (upd ON pn 0))), ((mb 10), .inl (t 0, 16, .inl (upd TW pn 0))), ((mb 11), .inl (t 0, 16, .inl (upd SK dn (nI pn))))] [.int (nI (dn + 1))] 45 0 0 rfl rfl rfl rfl rfl ?_
      exact jr_iret CC MM (jd ddX11_putChannel 24 rfl) rfl (by decide) (by decide) (Or.inl ⟨(by rw [ePutC_m d pn hp9, if_neg c1]; (repeat (first | rw [if_pos (by omega)] | rw [if_neg (by omega)]))), rfl, rfl⟩)
    · have n2 := jeq_of (a := pn) (b := 16) c2 (by omega) (by omega)
      refine jr_iconst (v := 2) CC (jd ddX11_putChannel 12 rfl) (by decide) ?_
      refine jr_goto 28 CC (jd ddX11_putChannel 13 rfl) (by decide) ?_
      refine jr_callV (q0 := 0) (rest := []) [.int 2] CC (jd ddX11_putChannel 15 rfl) (jy_X11_111 CC) (k_X11_fails_2 l t hfl m0 mb R) [0] rfl (by decide) rfl rfl rfl rfl (by decide) (Nat.le_of_ble_eq_true rfl) (by rintro v u h; rcases h with ⟨rfl, rfl⟩ <;> exact (show ([m0] : List Nat) = [m0] from rfl)) (fun _ _ h => h.elim) (fun _ _ h => h.elim) (fun v u h => ?_)
      rcases h with ⟨rfl, rfl⟩
      refine jr_norm [(m0, .inr (10, jmdl (upd R 44 2) mb)), ((mb 8), .inl (t 0, 16, .inl PT)), ((mb 9), .inl (t 0, 16, .inl ON)), ((mb 10), .inl (t 0, 16, .inl TW)), ((mb 11), .inl (t 0, 16, .inl SK))] [.int 1] 31 0 0 rfl rfl rfl rfl rfl ?_
      refine jr_if_eq 38 CC (jd ddX11_putChannel 16 rfl) (by decide) (fun h => absurd h (by decide)) (fun _ => ?_)
      refine jr_iconst (v := 0) CC (jd ddX11_putChannel 17 rfl) (by decide) ?_
      refine jr_goto 45 CC (jd ddX11_putChannel 18 rfl) (by decide) ?_
      exact jr_iret CC MM (jd ddX11_putChannel 24 rfl) rfl (by decide) (by decide) (Or.inr (Or.inr ⟨(by rw [ePutC_m d pn hp9, if_neg c1]; (repeat (first | rw [if_pos (by omega)] | rw [if_neg (by omega)]))), rfl, rfl⟩))
  · refine jr_iconst (v := 1) CC (jd ddX11_putChannel 6 rfl) (by decide) ?_
    refine jr_goto 28 CC (jd ddX11_putChannel 7 rfl) (by decide) ?_
    refine jr_callV (q0 := 0) (rest := []) [.int 1] CC (jd ddX11_putChannel 15 rfl) (jy_X11_111 CC) (k_X11_fails_1 l t hfl m0 mb R) [0] rfl (by decide) rfl rfl rfl rfl (by decide) (Nat.le_of_ble_eq_true rfl) (by rintro v u h; rcases h with ⟨rfl, rfl⟩ <;> exact (show ([m0] : List Nat) = [m0] from rfl)) (fun _ _ h => h.elim) (fun _ _ h => h.elim) (fun v u h => ?_)
    rcases h with ⟨rfl, rfl⟩
    refine jr_norm [(m0, .inr (10, jmdl (upd R 44 1) mb)), ((mb 8), .inl (t 0, 16, .inl PT)), ((mb 9), .inl (t 0, 16, .inl ON)), ((mb 10), .inl (t 0, 16, .inl TW)), ((mb 11), .inl (t 0, 16, .inl SK))] [.int 1] 31 0 0 rfl rfl rfl rfl rfl ?_
    refine jr_if_eq 38 CC (jd ddX11_putChannel 16 rfl) (by decide) (fun h => absurd h (by decide)) (fun _ => ?_)
    refine jr_iconst (v := 0) CC (jd ddX11_putChannel 17 rfl) (by decide) ?_
    refine jr_goto 45 CC (jd ddX11_putChannel 18 rfl) (by decide) ?_
    exact jr_iret CC MM (jd ddX11_putChannel 24 rfl) rfl (by decide) (by decide) (Or.inr (Or.inl ⟨(by rw [ePutC_m d pn hp9, if_pos c1]), rfl, rfl⟩))
set_option maxHeartbeats 8000000 in
set_option maxRecDepth 100000 in
theorem k_X11_putConstant (l : Launch) (t : Nat → ClassId) (hfl : l.stackTraces = false) (m0 : Nat) (mb : Nat → Nat) (R : Nat → Int32) (PT : Nat → Int32) (ON : Nat → Int32) (TW : Nat → Int32) (SK : Nat → Int32) (pn : Nat) (dn : Nat) (d : Int32) (hpn : R 37 = nI pn) (hdn : R 41 = nI dn) (hp9 : pn ≤ 16) (hd9 : dn ≤ pn) : jKx l t yX11_putConstant (Cond.code yX11_putConstant cX11_putConstant 2 (some .int) :: jWS) { frames := 1, cells := 0, slots := 0, locals := 23 } [.ref m0, .int d] [(m0, .inr (10, jmdl R mb)), ((mb 8), .inl (t 0, 16, .inl PT)), ((mb 9), .inl (t 0, 16, .inl ON)), ((mb 10), .inl (t 0, 16, .inl TW)), ((mb 11), .inl (t 0, 16, .inl SK))] (fun vv uu => (((ePutK d (nI pn)) = 0) ∧ vv = some (.int (nI (dn + 1))) ∧ uu = [(m0, .inr (10, jmdl (upd (upd (upd R 44 0) 41 (nI (dn + 1))) 37 (nI (pn + 1))) mb)), ((mb 8), .inl (t 0, 16, .inl (upd PT pn 2))), ((mb 9), .inl (t 0, 16, .inl (upd ON pn d))), ((mb 10), .inl (t 0, 16, .inl (upd TW pn 0))), ((mb 11), .inl (t 0, 16, .inl (upd SK (dn) (nI pn))))]) ∨ (((ePutK d (nI pn)) = 1) ∧ vv = some (.int 0) ∧ uu = [(m0, .inr (10, jmdl (upd R 44 1) mb)), ((mb 8), .inl (t 0, 16, .inl PT)), ((mb 9), .inl (t 0, 16, .inl ON)), ((mb 10), .inl (t 0, 16, .inl TW)), ((mb 11), .inl (t 0, 16, .inl SK))]) ∨ (((ePutK d (nI pn)) = 2) ∧ vv = some (.int 0) ∧ uu = [(m0, .inr (10, jmdl (upd R 44 2) mb)), ((mb 8), .inl (t 0, 16, .inl PT)), ((mb 9), .inl (t 0, 16, .inl ON)), ((mb 10), .inl (t 0, 16, .inl TW)), ((mb 11), .inl (t 0, 16, .inl SK))])) (fun _ _ => False) := by
  refine jK_of hfl (by decide +kernel) (Nat.le_of_ble_eq_true rfl) ?_
  intro p e s m args below meth c D A Q CC MM
  refine jr_norm0 [(0, .ref m0), (1, .int d)] rfl ?_
  refine jr_aload_n CC (jd ddX11_putConstant 0 rfl) 0 rfl ?_
  refine jr_iload_n CC (jd ddX11_putConstant 1 rfl) 1 rfl ?_
  refine jr_sipush (v := (-1000)) CC (jd ddX11_putConstant 2 rfl) (by decide) ?_
  refine jr_sipush (v := 1000) CC (jd ddX11_putConstant 3 rfl) (by decide) ?_
  refine jr_callS (rest := [.ref m0]) [.int d, .int (-1000), .int 1000] CC (jd ddX11_putConstant 4 rfl) (jy_X11_67 CC) (k_X11_isIn l t hfl d (-1000) 1000) [] rfl (by decide) rfl rfl (by decide) (Nat.le_of_ble_eq_true rfl) (by rintro v u h; rcases h with ⟨rfl, rfl⟩ <;> rfl) (fun _ _ h => h.elim) (fun _ _ h => h.elim) (fun v u h => ?_)
  rcases h with ⟨rfl, rfl⟩
  refine jr_norm [(m0, .inr (10, jmdl R mb)), ((mb 8), .inl (t 0, 16, .inl PT)), ((mb 9), .inl (t 0, 16, .inl ON)), ((mb 10), .inl (t 0, 16, .inl TW)), ((mb 11), .inl (t 0, 16, .inl SK))] [.int (mIn d (-1000) 1000), .ref m0] 11 0 0 rfl rfl rfl rfl rfl ?_
  refine jr_if_ne 18 CC (jd ddX11_putConstant 5 rfl) (by decide) (fun c1 => ?_) (fun c1 => ?_)
  · refine jr_aload_n CC (jd ddX11_putConstant 8 rfl) 0 rfl ?_
    refine jr_get (v := .int (R 37)) CC (jd ddX11_putConstant 9 rfl) (jf_X11_205 CC) 0 rfl rfl ?_
    refine jr_st [.int (nI pn), .ref m0] (jst1 hpn) ?_
    refine jr_bipush (v := 16) CC (jd ddX11_putConstant 10 rfl) (by decide) ?_
    refine jr_icmp_ne 31 CC (jd ddX11_putConstant 11 rfl) (by decide) (fun c2 => ?_) (fun c2 => ?_)
    · have n2 := jeq_not (a := pn) (b := 16) c2 (by omega) (by omega)
      refine jr_iconst (v := 0) CC (jd ddX11_putConstant 14 rfl) (by decide) ?_
      refine jr_callV (q0 := 0) (rest := []) [.int 0] CC (jd ddX11_putConstant 15 rfl) (jy_X11_111 CC) (k_X11_fails_0 l t hfl m0 mb R) [0] rfl (by decide) rfl rfl rfl rfl (by decide) (Nat.le_of_ble_eq_true rfl) (by rintro v u h; rcases h with ⟨rfl, rfl⟩ <;> exact (show ([m0] : List Nat) = [m0] from rfl)) (fun _ _ h => h.elim) (fun _ _ h => h.elim) (fun v u h => ?_)
      rcases h with ⟨rfl, rfl⟩
      refine jr_norm [(m0, .inr (10, jmdl (upd R 44 0) mb)), ((mb 8), .inl (t 0, 16, .inl PT)), ((mb 9), .inl (t 0, 16, .inl ON)), ((mb 10), .inl (t 0, 16, .inl TW)), ((mb 11), .inl (t 0, 16, .inl SK))] [.int 0] 35 0 0 rfl rfl rfl rfl rfl ?_
      refine jr_if_eq 42 CC (jd ddX11_putConstant 16 rfl) (by decide) (fun _ => ?_) (fun h => absurd h (by decide))
      refine jr_aload_n CC (jd ddX11_putConstant 19 rfl) 0 rfl ?_
      refine jr_iconst (v := 2) CC (jd ddX11_putConstant 20 rfl) (by decide) ?_
      refine jr_iload_n CC (jd ddX11_putConstant 21 rfl) 1 rfl ?_
      refine jr_iconst (v := 0) CC (jd ddX11_putConstant 22 rfl) (by decide) ?_
      refine jr_callV (q0 := 0) (rest := []) [.int 2, .int d, .int 0] CC (jd ddX11_putConstant 23 rfl) (jy_X11_211 CC) (k_X11_puts l t hfl m0 mb (upd R 44 0) PT ON TW SK pn dn 2 d 0 (by simp [upd, hpn]) (by simp [upd, hdn]) (by first | assumption | omega | decide) (by first | assumption | omega | decide)) [0, 1, 2, 3, 4] rfl (by decide) rfl rfl rfl rfl (by decide) (Nat.le_of_ble_eq_true rfl) (by rintro v u h; rcases h with ⟨rfl, rfl⟩ <;> exact (show ([m0, (mb 8), (mb 9), (mb 10), (mb 11)] : List Nat) = [m0, (mb 8), (mb 9), (mb 10), (mb 11)] from rfl)) (fun _ _ h => h.elim) (fun _ _ h => h.elim) (fun v u h => ?_)
      rcases h with ⟨rfl, rfl⟩
      refine jr_norm [(m0, .inr (10, jmdl (upd (upd (upd R 44 0) 41 (nI (dn + 1))) 37 (nI (pn + 1))) mb)), ((mb 8), .inl (t 0, 16, .inl (upd PT pn 2))), ((mb 9), .inl (t 0, 16, .inl (upd ON pn d))), ((mb 10), .inl (t 0, 16, .inl (upd TW pn 0))), ((mb 11), .inl (t 0, 16, .inl (upd SK dn (nI pn))))] [.int (nI (dn + 1))] 49 0 0 rfl rfl rfl rfl rfl ?_
      exact jr_iret CC MM (jd ddX11_putConstant 24 rfl) rfl (by decide) (by decide) (Or.inl ⟨(by rw [ePutK_m d pn hp9, if_neg c1]; (repeat (first | rw [if_pos (by omega)] | rw [if_neg (by omega)]))), rfl, rfl⟩)
    · have n2 := jeq_of (a := pn) (b := 16) c2 (by omega) (by omega)
      refine jr_iconst (v := 2) CC (jd ddX11_putConstant 12 rfl) (by decide) ?_
      refine jr_goto 32 CC (jd ddX11_putConstant 13 rfl) (by decide) ?_
      refine jr_callV (q0 := 0) (rest := []) [.int 2] CC (jd ddX11_putConstant 15 rfl) (jy_X11_111 CC) (k_X11_fails_2 l t hfl m0 mb R) [0] rfl (by decide) rfl rfl rfl rfl (by decide) (Nat.le_of_ble_eq_true rfl) (by rintro v u h; rcases h with ⟨rfl, rfl⟩ <;> exact (show ([m0] : List Nat) = [m0] from rfl)) (fun _ _ h => h.elim) (fun _ _ h => h.elim) (fun v u h => ?_)
      rcases h with ⟨rfl, rfl⟩
      refine jr_norm [(m0, .inr (10, jmdl (upd R 44 2) mb)), ((mb 8), .inl (t 0, 16, .inl PT)), ((mb 9), .inl (t 0, 16, .inl ON)), ((mb 10), .inl (t 0, 16, .inl TW)), ((mb 11), .inl (t 0, 16, .inl SK))] [.int 1] 35 0 0 rfl rfl rfl rfl rfl ?_
      refine jr_if_eq 42 CC (jd ddX11_putConstant 16 rfl) (by decide) (fun h => absurd h (by decide)) (fun _ => ?_)
      refine jr_iconst (v := 0) CC (jd ddX11_putConstant 17 rfl) (by decide) ?_
      refine jr_goto 49 CC (jd ddX11_putConstant 18 rfl) (by decide) ?_
      exact jr_iret CC MM (jd ddX11_putConstant 24 rfl) rfl (by decide) (by decide) (Or.inr (Or.inr ⟨(by rw [ePutK_m d pn hp9, if_neg c1]; (repeat (first | rw [if_pos (by omega)] | rw [if_neg (by omega)]))), rfl, rfl⟩))
  · refine jr_iconst (v := 1) CC (jd ddX11_putConstant 6 rfl) (by decide) ?_
    refine jr_goto 32 CC (jd ddX11_putConstant 7 rfl) (by decide) ?_
    refine jr_callV (q0 := 0) (rest := []) [.int 1] CC (jd ddX11_putConstant 15 rfl) (jy_X11_111 CC) (k_X11_fails_1 l t hfl m0 mb R) [0] rfl (by decide) rfl rfl rfl rfl (by decide) (Nat.le_of_ble_eq_true rfl) (by rintro v u h; rcases h with ⟨rfl, rfl⟩ <;> exact (show ([m0] : List Nat) = [m0] from rfl)) (fun _ _ h => h.elim) (fun _ _ h => h.elim) (fun v u h => ?_)
    rcases h with ⟨rfl, rfl⟩
    refine jr_norm [(m0, .inr (10, jmdl (upd R 44 1) mb)), ((mb 8), .inl (t 0, 16, .inl PT)), ((mb 9), .inl (t 0, 16, .inl ON)), ((mb 10), .inl (t 0, 16, .inl TW)), ((mb 11), .inl (t 0, 16, .inl SK))] [.int 1] 35 0 0 rfl rfl rfl rfl rfl ?_
    refine jr_if_eq 42 CC (jd ddX11_putConstant 16 rfl) (by decide) (fun h => absurd h (by decide)) (fun _ => ?_)
    refine jr_iconst (v := 0) CC (jd ddX11_putConstant 17 rfl) (by decide) ?_
    refine jr_goto 49 CC (jd ddX11_putConstant 18 rfl) (by decide) ?_
    exact jr_iret CC MM (jd ddX11_putConstant 24 rfl) rfl (by decide) (by decide) (Or.inr (Or.inl ⟨(by rw [ePutK_m d pn hp9, if_pos c1]), rfl, rfl⟩))
set_option maxHeartbeats 8000000 in
set_option maxRecDepth 100000 in
theorem k_X11_apply (l : Launch) (t : Nat → ClassId) (hfl : l.stackTraces = false) (m0 : Nat) (mb : Nat → Nat) (R : Nat → Int32) (PT : Nat → Int32) (ON : Nat → Int32) (TW : Nat → Int32) (SK : Nat → Int32) (pn : Nat) (dn : Nat) (d : Int32) (hpn : R 37 = nI pn) (hdn : R 41 = nI dn) (hp9 : pn ≤ 16) (hd9 : dn ≤ pn) : jKx l t yX11_apply (Cond.code yX11_apply cX11_apply 2 (some .int) :: jWS) { frames := 1, cells := 0, slots := 0, locals := 23 } [.ref m0, .int d] [(m0, .inr (10, jmdl R mb)), ((mb 8), .inl (t 0, 16, .inl PT)), ((mb 9), .inl (t 0, 16, .inl ON)), ((mb 10), .inl (t 0, 16, .inl TW)), ((mb 11), .inl (t 0, 16, .inl SK))] (fun vv uu => (((eApply d (nI pn) (nI dn)) = 0) ∧ vv = some (.int (nI (dn - 1 + 1))) ∧ uu = [(m0, .inr (10, jmdl (upd (upd (upd (upd R 44 0) 41 (nI (dn - 1))) 41 (nI (dn - 1 + 1))) 37 (nI (pn + 1))) mb)), ((mb 8), .inl (t 0, 16, .inl (upd PT pn (10 + d)))), ((mb 9), .inl (t 0, 16, .inl (upd ON pn (SK (dn - 1))))), ((mb 10), .inl (t 0, 16, .inl (upd TW pn 0))), ((mb 11), .inl (t 0, 16, .inl (upd SK (dn - 1) (nI pn))))]) ∨ (((eApply d (nI pn) (nI dn)) = 1) ∧ vv = some (.int 0) ∧ uu = [(m0, .inr (10, jmdl (upd R 44 1) mb)), ((mb 8), .inl (t 0, 16, .inl PT)), ((mb 9), .inl (t 0, 16, .inl ON)), ((mb 10), .inl (t 0, 16, .inl TW)), ((mb 11), .inl (t 0, 16, .inl SK))]) ∨ (((eApply d (nI pn) (nI dn)) = 2) ∧ vv = some (.int 0) ∧ uu = [(m0, .inr (10, jmdl (upd R 44 2) mb)), ((mb 8), .inl (t 0, 16, .inl PT)), ((mb 9), .inl (t 0, 16, .inl ON)), ((mb 10), .inl (t 0, 16, .inl TW)), ((mb 11), .inl (t 0, 16, .inl SK))])) (fun _ _ => False) := by
  refine jK_of hfl (by decide +kernel) (Nat.le_of_ble_eq_true rfl) ?_
  intro p e s m args below meth c D A Q CC MM
  refine jr_norm0 [(0, .ref m0), (1, .int d)] rfl ?_
  refine jr_aload_n CC (jd ddX11_apply 0 rfl) 0 rfl ?_
  refine jr_iload_n CC (jd ddX11_apply 1 rfl) 1 rfl ?_
  refine jr_iconst (v := 0) CC (jd ddX11_apply 2 rfl) (by decide) ?_
  refine jr_iconst (v := 3) CC (jd ddX11_apply 3 rfl) (by decide) ?_
  refine jr_callS (rest := [.ref m0]) [.int d, .int 0, .int 3] CC (jd ddX11_apply 4 rfl) (jy_X11_67 CC) (k_X11_isIn l t hfl d 0 3) [] rfl (by decide) rfl rfl (by decide) (Nat.le_of_ble_eq_true rfl) (by rintro v u h; rcases h with ⟨rfl, rfl⟩ <;> rfl) (fun _ _ h => h.elim) (fun _ _ h => h.elim) (fun v u h => ?_)
  rcases h with ⟨rfl, rfl⟩
  refine jr_norm [(m0, .inr (10, jmdl R mb)), ((mb 8), .inl (t 0, 16, .inl PT)), ((mb 9), .inl (t 0, 16, .inl ON)), ((mb 10), .inl (t 0, 16, .inl TW)), ((mb 11), .inl (t 0, 16, .inl SK))] [.int (mIn d 0 3), .ref m0] 7 0 0 rfl rfl rfl rfl rfl ?_
  refine jr_if_ne 14 CC (jd ddX11_apply 5 rfl) (by decide) (fun c1 => ?_) (fun c1 => ?_)
  · refine jr_aload_n CC (jd ddX11_apply 8 rfl) 0 rfl ?_
    refine jr_get (v := .int (R 37)) CC (jd ddX11_apply 9 rfl) (jf_X11_205 CC) 0 rfl rfl ?_
    refine jr_st [.int (nI pn), .ref m0] (jst1 hpn) ?_
    refine jr_bipush (v := 16) CC (jd ddX11_apply 10 rfl) (by decide) ?_
    refine jr_icmp_eq 30 CC (jd ddX11_apply 11 rfl) (by decide) (fun c2 => ?_) (fun c2 => ?_)
    · have n2 := jeq_of (a := pn) (b := 16) c2 (by omega) (by omega)
      refine jr_iconst (v := 2) CC (jd ddX11_apply 15 rfl) (by decide) ?_
      refine jr_goto 35 CC (jd ddX11_apply 16 rfl) (by decide) ?_
      refine jr_callV (q0 := 0) (rest := []) [.int 2] CC (jd ddX11_apply 18 rfl) (jy_X11_111 CC) (k_X11_fails_2 l t hfl m0 mb R) [0] rfl (by decide) rfl rfl rfl rfl (by decide) (Nat.le_of_ble_eq_true rfl) (by rintro v u h; rcases h with ⟨rfl, rfl⟩ <;> exact (show ([m0] : List Nat) = [m0] from rfl)) (fun _ _ h => h.elim) (fun _ _ h => h.elim) (fun v u h => ?_)
      rcases h with ⟨rfl, rfl⟩
      refine jr_norm [(m0, .inr (10, jmdl (upd R 44 2) mb)), ((mb 8), .inl (t 0, 16, .inl PT)), ((mb 9), .inl (t 0, 16, .inl ON)), ((mb 10), .inl (t 0, 16, .inl TW)), ((mb 11), .inl (t 0, 16, .inl SK))] [.int 1] 38 0 0 rfl rfl rfl rfl rfl ?_
      refine jr_if_eq 43 CC (jd ddX11_apply 19 rfl) (by decide) (fun h => absurd h (by decide)) (fun _ => ?_)
      refine jr_iconst (v := 0) CC (jd ddX11_apply 20 rfl) (by decide) ?_
      exact jr_iret CC MM (jd ddX11_apply 21 rfl) rfl (by decide) (by decide) (Or.inr (Or.inr ⟨(by rw [eApply_m d pn dn hp9 (by omega), if_neg c1]; (repeat (first | rw [if_pos (by omega)] | rw [if_neg (by omega)]))), rfl, rfl⟩))
    · have n2 := jeq_not (a := pn) (b := 16) c2 (by omega) (by omega)
      refine jr_aload_n CC (jd ddX11_apply 12 rfl) 0 rfl ?_
      refine jr_get (v := .int (R 41)) CC (jd ddX11_apply 13 rfl) (jf_X11_208 CC) 0 rfl rfl ?_
      refine jr_st [.int (nI dn), .ref m0] (jst1 hdn) ?_
      refine jr_if_ne 34 CC (jd ddX11_apply 14 rfl) (by decide) (fun c4 => ?_) (fun c4 => ?_)
      · have n4 := jeq_not (a := dn) (b := 0) c4 (by omega) (by omega)
        refine jr_iconst (v := 0) CC (jd ddX11_apply 17 rfl) (by decide) ?_
        refine jr_callV (q0 := 0) (rest := []) [.int 0] CC (jd ddX11_apply 18 rfl) (jy_X11_111 CC) (k_X11_fails_0 l t hfl m0 mb R) [0] rfl (by decide) rfl rfl rfl rfl (by decide) (Nat.le_of_ble_eq_true rfl) (by rintro v u h; rcases h with ⟨rfl, rfl⟩ <;> exact (show ([m0] : List Nat) = [m0] from rfl)) (fun _ _ h => h.elim) (fun _ _ h => h.elim) (fun v u h => ?_)
        rcases h with ⟨rfl, rfl⟩
        refine jr_norm [(m0, .inr (10, jmdl (upd R 44 0) mb)), ((mb 8), .inl (t 0, 16, .inl PT)), ((mb 9), .inl (t 0, 16, .inl ON)), ((mb 10), .inl (t 0, 16, .inl TW)), ((mb 11), .inl (t 0, 16, .inl SK))] [.int 0] 38 0 0 rfl rfl rfl rfl rfl ?_
        refine jr_if_eq 43 CC (jd ddX11_apply 19 rfl) (by decide) (fun _ => ?_) (fun h => absurd h (by decide))
        refine jr_aload_n CC (jd ddX11_apply 22 rfl) 0 rfl ?_
        refine jr_dup CC (jd ddX11_apply 23 rfl) rfl ?_
        refine jr_get (v := .int (R 41)) CC (jd ddX11_apply 24 rfl) (jf_X11_208 CC) 0 rfl rfl ?_
        refine jr_st [.int (nI dn), .ref m0] (jst1 hdn) ?_
        refine jr_iconst (v := 1) CC (jd ddX11_apply 25 rfl) (by decide) ?_
        refine jr_isub CC (jd ddX11_apply 26 rfl) ?_
        refine jr_st [.int (nI (dn - 1)), .ref m0] (jst1 (pk_sub (a := dn) (b := 1) (by omega))) ?_
        refine jr_put CC (jd ddX11_apply 27 rfl) (jf_X11_208 CC) 0 rfl rfl rfl (Nat.le_of_ble_eq_true rfl) ?_
        refine jr_ws [(m0, .inr (10, jmdl (upd (upd R 44 0) 41 (nI (dn - 1))) mb)), ((mb 8), .inl (t 0, 16, .inl PT)), ((mb 9), .inl (t 0, 16, .inl ON)), ((mb 10), .inl (t 0, 16, .inl TW)), ((mb 11), .inl (t 0, 16, .inl SK))] rfl ?_
        refine jr_aload_n CC (jd ddX11_apply 28 rfl) 0 rfl ?_
        refine jr_bipush (v := 10) CC (jd ddX11_apply 29 rfl) (by decide) ?_
        refine jr_iload_n CC (jd ddX11_apply 30 rfl) 1 rfl ?_
        refine jr_pc (pc' := 57) rfl ?_
        refine jr_iadd CC (jd ddX11_apply 31 rfl) ?_
        refine jr_aload_n CC (jd ddX11_apply 32 rfl) 0 rfl ?_
        refine jr_get (v := .ref (mb 11)) CC (jd ddX11_apply 33 rfl) (jf_X11_58 CC) 0 rfl rfl ?_
        refine jr_aload_n CC (jd ddX11_apply 34 rfl) 0 rfl ?_
        refine jr_get (v := .int (nI (dn - 1))) CC (jd ddX11_apply 35 rfl) (jf_X11_208 CC) 0 rfl rfl ?_
        refine jr_ialdN CC (jd ddX11_apply 36 rfl) 4 (dn - 1) rfl rfl (by omega) (by decide) ?_
        refine jr_iconst (v := 0) CC (jd ddX11_apply 37 rfl) (by decide) ?_
        refine jr_callV (q0 := 0) (rest := []) [.int (10 + d), .int (SK (dn - 1)), .int 0] CC (jd ddX11_apply 38 rfl) (jy_X11_211 CC) (k_X11_puts l t hfl m0 mb (upd (upd R 44 0) 41 (nI (dn - 1))) PT ON TW SK pn (dn - 1) (10 + d) (SK (dn - 1)) 0 (by simp [upd, hpn]) (by simp [upd, hdn]) (by first | assumption | omega | decide) (by first | assumption | omega | decide)) [0, 1, 2, 3, 4] rfl (by decide) rfl rfl rfl rfl (by decide) (Nat.le_of_ble_eq_true rfl) (by rintro v u h; rcases h with ⟨rfl, rfl⟩ <;> exact (show ([m0, (mb 8), (mb 9), (mb 10), (mb 11)] : List Nat) = [m0, (mb 8), (mb 9), (mb 10), (mb 11)] from rfl)) (fun _ _ h => h.elim) (fun _ _ h => h.elim) (fun v u h => ?_)
        rcases h with ⟨rfl, rfl⟩
        refine jr_norm [(m0, .inr (10, jmdl (upd (upd (upd (upd R 44 0) 41 (nI (dn - 1))) 41 (nI ((dn - 1) + 1))) 37 (nI (pn + 1))) mb)), ((mb 8), .inl (t 0, 16, .inl (upd PT pn (10 + d)))), ((mb 9), .inl (t 0, 16, .inl (upd ON pn (SK (dn - 1))))), ((mb 10), .inl (t 0, 16, .inl (upd TW pn 0))), ((mb 11), .inl (t 0, 16, .inl (upd SK (dn - 1) (nI pn))))] [.int (nI ((dn - 1) + 1))] 71 0 0 rfl rfl rfl rfl rfl ?_
        exact jr_iret CC MM (jd ddX11_apply 39 rfl) rfl (by decide) (by decide) (Or.inl ⟨(by rw [eApply_m d pn dn hp9 (by omega), if_neg c1]; (repeat (first | rw [if_pos (by omega)] | rw [if_neg (by omega)]))), rfl, rfl⟩)
      · have n4 := jeq_of (a := dn) (b := 0) c4 (by omega) (by omega)
        refine jr_iconst (v := 2) CC (jd ddX11_apply 15 rfl) (by decide) ?_
        refine jr_goto 35 CC (jd ddX11_apply 16 rfl) (by decide) ?_
        refine jr_callV (q0 := 0) (rest := []) [.int 2] CC (jd ddX11_apply 18 rfl) (jy_X11_111 CC) (k_X11_fails_2 l t hfl m0 mb R) [0] rfl (by decide) rfl rfl rfl rfl (by decide) (Nat.le_of_ble_eq_true rfl) (by rintro v u h; rcases h with ⟨rfl, rfl⟩ <;> exact (show ([m0] : List Nat) = [m0] from rfl)) (fun _ _ h => h.elim) (fun _ _ h => h.elim) (fun v u h => ?_)
        rcases h with ⟨rfl, rfl⟩
        refine jr_norm [(m0, .inr (10, jmdl (upd R 44 2) mb)), ((mb 8), .inl (t 0, 16, .inl PT)), ((mb 9), .inl (t 0, 16, .inl ON)), ((mb 10), .inl (t 0, 16, .inl TW)), ((mb 11), .inl (t 0, 16, .inl SK))] [.int 1] 38 0 0 rfl rfl rfl rfl rfl ?_
        refine jr_if_eq 43 CC (jd ddX11_apply 19 rfl) (by decide) (fun h => absurd h (by decide)) (fun _ => ?_)
        refine jr_iconst (v := 0) CC (jd ddX11_apply 20 rfl) (by decide) ?_
        exact jr_iret CC MM (jd ddX11_apply 21 rfl) rfl (by decide) (by decide) (Or.inr (Or.inr ⟨(by rw [eApply_m d pn dn hp9 (by omega), if_neg c1]; (repeat (first | rw [if_pos (by omega)] | rw [if_neg (by omega)]))), rfl, rfl⟩))
  · refine jr_iconst (v := 1) CC (jd ddX11_apply 6 rfl) (by decide) ?_
    refine jr_goto 35 CC (jd ddX11_apply 7 rfl) (by decide) ?_
    refine jr_callV (q0 := 0) (rest := []) [.int 1] CC (jd ddX11_apply 18 rfl) (jy_X11_111 CC) (k_X11_fails_1 l t hfl m0 mb R) [0] rfl (by decide) rfl rfl rfl rfl (by decide) (Nat.le_of_ble_eq_true rfl) (by rintro v u h; rcases h with ⟨rfl, rfl⟩ <;> exact (show ([m0] : List Nat) = [m0] from rfl)) (fun _ _ h => h.elim) (fun _ _ h => h.elim) (fun v u h => ?_)
    rcases h with ⟨rfl, rfl⟩
    refine jr_norm [(m0, .inr (10, jmdl (upd R 44 1) mb)), ((mb 8), .inl (t 0, 16, .inl PT)), ((mb 9), .inl (t 0, 16, .inl ON)), ((mb 10), .inl (t 0, 16, .inl TW)), ((mb 11), .inl (t 0, 16, .inl SK))] [.int 1] 38 0 0 rfl rfl rfl rfl rfl ?_
    refine jr_if_eq 43 CC (jd ddX11_apply 19 rfl) (by decide) (fun h => absurd h (by decide)) (fun _ => ?_)
    refine jr_iconst (v := 0) CC (jd ddX11_apply 20 rfl) (by decide) ?_
    exact jr_iret CC MM (jd ddX11_apply 21 rfl) rfl (by decide) (by decide) (Or.inr (Or.inl ⟨(by rw [eApply_m d pn dn hp9 (by omega), if_pos c1]), rfl, rfl⟩))
set_option maxHeartbeats 8000000 in
set_option maxRecDepth 100000 in
theorem k_X11_combine (l : Launch) (t : Nat → ClassId) (hfl : l.stackTraces = false) (m0 : Nat) (mb : Nat → Nat) (R : Nat → Int32) (PT : Nat → Int32) (ON : Nat → Int32) (TW : Nat → Int32) (SK : Nat → Int32) (pn : Nat) (dn : Nat) (d : Int32) (hpn : R 37 = nI pn) (hdn : R 41 = nI dn) (hp9 : pn ≤ 16) (hd9 : dn ≤ pn) : jKx l t yX11_combine (Cond.code yX11_combine cX11_combine 2 (some .int) :: jWS) { frames := 1, cells := 0, slots := 0, locals := 23 } [.ref m0, .int d] [(m0, .inr (10, jmdl R mb)), ((mb 8), .inl (t 0, 16, .inl PT)), ((mb 9), .inl (t 0, 16, .inl ON)), ((mb 10), .inl (t 0, 16, .inl TW)), ((mb 11), .inl (t 0, 16, .inl SK))] (fun vv uu => (((eComb d (nI pn) (nI dn)) = 0) ∧ vv = some (.int (nI (dn - 2 + 1))) ∧ uu = [(m0, .inr (10, jmdl (upd (upd (upd (upd R 44 0) 41 (nI (dn - 2))) 41 (nI (dn - 2 + 1))) 37 (nI (pn + 1))) mb)), ((mb 8), .inl (t 0, 16, .inl (upd PT pn (20 + d)))), ((mb 9), .inl (t 0, 16, .inl (upd ON pn (SK (dn - 2))))), ((mb 10), .inl (t 0, 16, .inl (upd TW pn (SK (dn - 2 + 1))))), ((mb 11), .inl (t 0, 16, .inl (upd SK (dn - 2) (nI pn))))]) ∨ (((eComb d (nI pn) (nI dn)) = 1) ∧ vv = some (.int 0) ∧ uu = [(m0, .inr (10, jmdl (upd R 44 1) mb)), ((mb 8), .inl (t 0, 16, .inl PT)), ((mb 9), .inl (t 0, 16, .inl ON)), ((mb 10), .inl (t 0, 16, .inl TW)), ((mb 11), .inl (t 0, 16, .inl SK))]) ∨ (((eComb d (nI pn) (nI dn)) = 2) ∧ vv = some (.int 0) ∧ uu = [(m0, .inr (10, jmdl (upd R 44 2) mb)), ((mb 8), .inl (t 0, 16, .inl PT)), ((mb 9), .inl (t 0, 16, .inl ON)), ((mb 10), .inl (t 0, 16, .inl TW)), ((mb 11), .inl (t 0, 16, .inl SK))])) (fun _ _ => False) := by
  refine jK_of hfl (by decide +kernel) (Nat.le_of_ble_eq_true rfl) ?_
  intro p e s m args below meth c D A Q CC MM
  refine jr_norm0 [(0, .ref m0), (1, .int d)] rfl ?_
  refine jr_aload_n CC (jd ddX11_combine 0 rfl) 0 rfl ?_
  refine jr_iload_n CC (jd ddX11_combine 1 rfl) 1 rfl ?_
  refine jr_iconst (v := 0) CC (jd ddX11_combine 2 rfl) (by decide) ?_
  refine jr_iconst (v := 4) CC (jd ddX11_combine 3 rfl) (by decide) ?_
  refine jr_callS (rest := [.ref m0]) [.int d, .int 0, .int 4] CC (jd ddX11_combine 4 rfl) (jy_X11_67 CC) (k_X11_isIn l t hfl d 0 4) [] rfl (by decide) rfl rfl (by decide) (Nat.le_of_ble_eq_true rfl) (by rintro v u h; rcases h with ⟨rfl, rfl⟩ <;> rfl) (fun _ _ h => h.elim) (fun _ _ h => h.elim) (fun v u h => ?_)
  rcases h with ⟨rfl, rfl⟩
  refine jr_norm [(m0, .inr (10, jmdl R mb)), ((mb 8), .inl (t 0, 16, .inl PT)), ((mb 9), .inl (t 0, 16, .inl ON)), ((mb 10), .inl (t 0, 16, .inl TW)), ((mb 11), .inl (t 0, 16, .inl SK))] [.int (mIn d 0 4), .ref m0] 7 0 0 rfl rfl rfl rfl rfl ?_
  refine jr_if_ne 14 CC (jd ddX11_combine 5 rfl) (by decide) (fun c1 => ?_) (fun c1 => ?_)
  · refine jr_aload_n CC (jd ddX11_combine 8 rfl) 0 rfl ?_
    refine jr_get (v := .int (R 37)) CC (jd ddX11_combine 9 rfl) (jf_X11_205 CC) 0 rfl rfl ?_
    refine jr_st [.int (nI pn), .ref m0] (jst1 hpn) ?_
    refine jr_bipush (v := 16) CC (jd ddX11_combine 10 rfl) (by decide) ?_
    refine jr_icmp_eq 31 CC (jd ddX11_combine 11 rfl) (by decide) (fun c2 => ?_) (fun c2 => ?_)
    · have n2 := jeq_of (a := pn) (b := 16) c2 (by omega) (by omega)
      refine jr_iconst (v := 2) CC (jd ddX11_combine 16 rfl) (by decide) ?_
      refine jr_goto 36 CC (jd ddX11_combine 17 rfl) (by decide) ?_
      refine jr_callV (q0 := 0) (rest := []) [.int 2] CC (jd ddX11_combine 19 rfl) (jy_X11_111 CC) (k_X11_fails_2 l t hfl m0 mb R) [0] rfl (by decide) rfl rfl rfl rfl (by decide) (Nat.le_of_ble_eq_true rfl) (by rintro v u h; rcases h with ⟨rfl, rfl⟩ <;> exact (show ([m0] : List Nat) = [m0] from rfl)) (fun _ _ h => h.elim) (fun _ _ h => h.elim) (fun v u h => ?_)
      rcases h with ⟨rfl, rfl⟩
      refine jr_norm [(m0, .inr (10, jmdl (upd R 44 2) mb)), ((mb 8), .inl (t 0, 16, .inl PT)), ((mb 9), .inl (t 0, 16, .inl ON)), ((mb 10), .inl (t 0, 16, .inl TW)), ((mb 11), .inl (t 0, 16, .inl SK))] [.int 1] 39 0 0 rfl rfl rfl rfl rfl ?_
      refine jr_if_eq 44 CC (jd ddX11_combine 20 rfl) (by decide) (fun h => absurd h (by decide)) (fun _ => ?_)
      refine jr_iconst (v := 0) CC (jd ddX11_combine 21 rfl) (by decide) ?_
      exact jr_iret CC MM (jd ddX11_combine 22 rfl) rfl (by decide) (by decide) (Or.inr (Or.inr ⟨(by rw [eComb_m d pn dn hp9 (by omega), if_neg c1]; (repeat (first | rw [if_pos (by omega)] | rw [if_neg (by omega)]))), rfl, rfl⟩))
    · have n2 := jeq_not (a := pn) (b := 16) c2 (by omega) (by omega)
      refine jr_aload_n CC (jd ddX11_combine 12 rfl) 0 rfl ?_
      refine jr_get (v := .int (R 41)) CC (jd ddX11_combine 13 rfl) (jf_X11_208 CC) 0 rfl rfl ?_
      refine jr_st [.int (nI dn), .ref m0] (jst1 hdn) ?_
      refine jr_iconst (v := 2) CC (jd ddX11_combine 14 rfl) (by decide) ?_
      refine jr_icmp_ge 35 CC (jd ddX11_combine 15 rfl) (by decide) (fun c4 => ?_) (fun c4 => ?_)
      · have n4 := jle_of (a := 2) (b := dn) c4 (by omega) (by omega)
        refine jr_iconst (v := 0) CC (jd ddX11_combine 18 rfl) (by decide) ?_
        refine jr_pc (pc' := 36) rfl ?_
        refine jr_callV (q0 := 0) (rest := []) [.int 0] CC (jd ddX11_combine 19 rfl) (jy_X11_111 CC) (k_X11_fails_0 l t hfl m0 mb R) [0] rfl (by decide) rfl rfl rfl rfl (by decide) (Nat.le_of_ble_eq_true rfl) (by rintro v u h; rcases h with ⟨rfl, rfl⟩ <;> exact (show ([m0] : List Nat) = [m0] from rfl)) (fun _ _ h => h.elim) (fun _ _ h => h.elim) (fun v u h => ?_)
        rcases h with ⟨rfl, rfl⟩
        refine jr_norm [(m0, .inr (10, jmdl (upd R 44 0) mb)), ((mb 8), .inl (t 0, 16, .inl PT)), ((mb 9), .inl (t 0, 16, .inl ON)), ((mb 10), .inl (t 0, 16, .inl TW)), ((mb 11), .inl (t 0, 16, .inl SK))] [.int 0] 39 0 0 rfl rfl rfl rfl rfl ?_
        refine jr_if_eq 44 CC (jd ddX11_combine 20 rfl) (by decide) (fun _ => ?_) (fun h => absurd h (by decide))
        refine jr_aload_n CC (jd ddX11_combine 23 rfl) 0 rfl ?_
        refine jr_dup CC (jd ddX11_combine 24 rfl) rfl ?_
        refine jr_get (v := .int (R 41)) CC (jd ddX11_combine 25 rfl) (jf_X11_208 CC) 0 rfl rfl ?_
        refine jr_st [.int (nI dn), .ref m0] (jst1 hdn) ?_
        refine jr_iconst (v := 2) CC (jd ddX11_combine 26 rfl) (by decide) ?_
        refine jr_isub CC (jd ddX11_combine 27 rfl) ?_
        refine jr_st [.int (nI (dn - 2)), .ref m0] (jst1 (pk_sub (a := dn) (b := 2) (by omega))) ?_
        refine jr_put CC (jd ddX11_combine 28 rfl) (jf_X11_208 CC) 0 rfl rfl rfl (Nat.le_of_ble_eq_true rfl) ?_
        refine jr_ws [(m0, .inr (10, jmdl (upd (upd R 44 0) 41 (nI (dn - 2))) mb)), ((mb 8), .inl (t 0, 16, .inl PT)), ((mb 9), .inl (t 0, 16, .inl ON)), ((mb 10), .inl (t 0, 16, .inl TW)), ((mb 11), .inl (t 0, 16, .inl SK))] rfl ?_
        refine jr_aload_n CC (jd ddX11_combine 29 rfl) 0 rfl ?_
        refine jr_bipush (v := 20) CC (jd ddX11_combine 30 rfl) (by decide) ?_
        refine jr_iload_n CC (jd ddX11_combine 31 rfl) 1 rfl ?_
        refine jr_pc (pc' := 58) rfl ?_
        refine jr_iadd CC (jd ddX11_combine 32 rfl) ?_
        refine jr_aload_n CC (jd ddX11_combine 33 rfl) 0 rfl ?_
        refine jr_get (v := .ref (mb 11)) CC (jd ddX11_combine 34 rfl) (jf_X11_58 CC) 0 rfl rfl ?_
        refine jr_aload_n CC (jd ddX11_combine 35 rfl) 0 rfl ?_
        refine jr_get (v := .int (nI (dn - 2))) CC (jd ddX11_combine 36 rfl) (jf_X11_208 CC) 0 rfl rfl ?_
        refine jr_ialdN CC (jd ddX11_combine 37 rfl) 4 (dn - 2) rfl rfl (by omega) (by decide) ?_
        refine jr_aload_n CC (jd ddX11_combine 38 rfl) 0 rfl ?_
        refine jr_get (v := .ref (mb 11)) CC (jd ddX11_combine 39 rfl) (jf_X11_58 CC) 0 rfl rfl ?_
        refine jr_aload_n CC (jd ddX11_combine 40 rfl) 0 rfl ?_
        refine jr_get (v := .int (nI (dn - 2))) CC (jd ddX11_combine 41 rfl) (jf_X11_208 CC) 0 rfl rfl ?_
        refine jr_pc (pc' := 76) rfl ?_
        refine jr_iconst (v := 1) CC (jd ddX11_combine 42 rfl) (by decide) ?_
        refine jr_iadd CC (jd ddX11_combine 43 rfl) ?_
        refine jr_st [.int (nI ((dn - 2) + 1)), .ref (mb 11), .int (SK (dn - 2)), .int (20 + d), .ref m0] (jst1 (nI_add (dn - 2) 1)) ?_
        refine jr_ialdN CC (jd ddX11_combine 44 rfl) 4 ((dn - 2) + 1) rfl rfl (by omega) (by decide) ?_
        refine jr_callV (q0 := 0) (rest := []) [.int (20 + d), .int (SK (dn - 2)), .int (SK ((dn - 2) + 1))] CC (jd ddX11_combine 45 rfl) (jy_X11_211 CC) (k_X11_puts l t hfl m0 mb (upd (upd R 44 0) 41 (nI (dn - 2))) PT ON TW SK pn (dn - 2) (20 + d) (SK (dn - 2)) (SK ((dn - 2) + 1)) (by simp [upd, hpn]) (by simp [upd, hdn]) (by first | assumption | omega | decide) (by first | assumption | omega | decide)) [0, 1, 2, 3, 4] rfl (by decide) rfl rfl rfl rfl (by decide) (Nat.le_of_ble_eq_true rfl) (by rintro v u h; rcases h with ⟨rfl, rfl⟩ <;> exact (show ([m0, (mb 8), (mb 9), (mb 10), (mb 11)] : List Nat) = [m0, (mb 8), (mb 9), (mb 10), (mb 11)] from rfl)) (fun _ _ h => h.elim) (fun _ _ h => h.elim) (fun v u h => ?_)
        rcases h with ⟨rfl, rfl⟩
        refine jr_norm [(m0, .inr (10, jmdl (upd (upd (upd (upd R 44 0) 41 (nI (dn - 2))) 41 (nI ((dn - 2) + 1))) 37 (nI (pn + 1))) mb)), ((mb 8), .inl (t 0, 16, .inl (upd PT pn (20 + d)))), ((mb 9), .inl (t 0, 16, .inl (upd ON pn (SK (dn - 2))))), ((mb 10), .inl (t 0, 16, .inl (upd TW pn (SK ((dn - 2) + 1))))), ((mb 11), .inl (t 0, 16, .inl (upd SK (dn - 2) (nI pn))))] [.int (nI ((dn - 2) + 1))] 82 0 0 rfl rfl rfl rfl rfl ?_
        exact jr_iret CC MM (jd ddX11_combine 46 rfl) rfl (by decide) (by decide) (Or.inl ⟨(by rw [eComb_m d pn dn hp9 (by omega), if_neg c1]; (repeat (first | rw [if_pos (by omega)] | rw [if_neg (by omega)]))), rfl, rfl⟩)
      · have n4 := jle_not (a := 2) (b := dn) c4 (by omega) (by omega)
        refine jr_iconst (v := 2) CC (jd ddX11_combine 16 rfl) (by decide) ?_
        refine jr_pc (pc' := 32) rfl ?_
        refine jr_goto 36 CC (jd ddX11_combine 17 rfl) (by decide) ?_
        refine jr_callV (q0 := 0) (rest := []) [.int 2] CC (jd ddX11_combine 19 rfl) (jy_X11_111 CC) (k_X11_fails_2 l t hfl m0 mb R) [0] rfl (by decide) rfl rfl rfl rfl (by decide) (Nat.le_of_ble_eq_true rfl) (by rintro v u h; rcases h with ⟨rfl, rfl⟩ <;> exact (show ([m0] : List Nat) = [m0] from rfl)) (fun _ _ h => h.elim) (fun _ _ h => h.elim) (fun v u h => ?_)
        rcases h with ⟨rfl, rfl⟩
        refine jr_norm [(m0, .inr (10, jmdl (upd R 44 2) mb)), ((mb 8), .inl (t 0, 16, .inl PT)), ((mb 9), .inl (t 0, 16, .inl ON)), ((mb 10), .inl (t 0, 16, .inl TW)), ((mb 11), .inl (t 0, 16, .inl SK))] [.int 1] 39 0 0 rfl rfl rfl rfl rfl ?_
        refine jr_if_eq 44 CC (jd ddX11_combine 20 rfl) (by decide) (fun h => absurd h (by decide)) (fun _ => ?_)
        refine jr_iconst (v := 0) CC (jd ddX11_combine 21 rfl) (by decide) ?_
        exact jr_iret CC MM (jd ddX11_combine 22 rfl) rfl (by decide) (by decide) (Or.inr (Or.inr ⟨(by rw [eComb_m d pn dn hp9 (by omega), if_neg c1]; (repeat (first | rw [if_pos (by omega)] | rw [if_neg (by omega)]))), rfl, rfl⟩))
  · refine jr_iconst (v := 1) CC (jd ddX11_combine 6 rfl) (by decide) ?_
    refine jr_goto 36 CC (jd ddX11_combine 7 rfl) (by decide) ?_
    refine jr_callV (q0 := 0) (rest := []) [.int 1] CC (jd ddX11_combine 19 rfl) (jy_X11_111 CC) (k_X11_fails_1 l t hfl m0 mb R) [0] rfl (by decide) rfl rfl rfl rfl (by decide) (Nat.le_of_ble_eq_true rfl) (by rintro v u h; rcases h with ⟨rfl, rfl⟩ <;> exact (show ([m0] : List Nat) = [m0] from rfl)) (fun _ _ h => h.elim) (fun _ _ h => h.elim) (fun v u h => ?_)
    rcases h with ⟨rfl, rfl⟩
    refine jr_norm [(m0, .inr (10, jmdl (upd R 44 1) mb)), ((mb 8), .inl (t 0, 16, .inl PT)), ((mb 9), .inl (t 0, 16, .inl ON)), ((mb 10), .inl (t 0, 16, .inl TW)), ((mb 11), .inl (t 0, 16, .inl SK))] [.int 1] 39 0 0 rfl rfl rfl rfl rfl ?_
    refine jr_if_eq 44 CC (jd ddX11_combine 20 rfl) (by decide) (fun h => absurd h (by decide)) (fun _ => ?_)
    refine jr_iconst (v := 0) CC (jd ddX11_combine 21 rfl) (by decide) ?_
    exact jr_iret CC MM (jd ddX11_combine 22 rfl) rfl (by decide) (by decide) (Or.inr (Or.inl ⟨(by rw [eComb_m d pn dn hp9 (by omega), if_pos c1]), rfl, rfl⟩))
def mBnd (v : Int64) : Int32 := if 0 ≤ lg_cmp v (-1000000) then (if lg_cmp v 1000000 ≤ 0 then v.toInt32 else 1000000) else -1000000
/-- what part i tells at place j of record r -/
def tPart (CU PT ON TW TC : Nat → Int32) (r i j : Nat) : Int32 :=
  if PT i = 0 then mcol CU r 0 j else if PT i = 1 then mcol CU r 1 j else if PT i = 2 then ON i
  else if PT i = 10 then mBnd (-(TC (49 * (ON i).toNatClampNeg + j))).toInt64
  else if PT i = 11 then mBnd (if 0 ≤ TC (49 * (ON i).toNatClampNeg + j) then (TC (49 * (ON i).toNatClampNeg + j)).toInt64 else (-(TC (49 * (ON i).toNatClampNeg + j))).toInt64)
  else if PT i = 12 then (if j = 0 then 0 else mBnd (TC (49 * (ON i).toNatClampNeg + j) - TC (49 * (ON i).toNatClampNeg + j - 1)).toInt64)
  else if PT i = 13 then (if j = 0 then mBnd (TC (49 * (ON i).toNatClampNeg + j)).toInt64 else mBnd (TC (49 * (ON i).toNatClampNeg + j) + TC (49 * i + j - 1)).toInt64)
  else if PT i = 20 then mBnd (TC (49 * (ON i).toNatClampNeg + j) + TC (49 * (TW i).toNatClampNeg + j)).toInt64
  else if PT i = 21 then mBnd (TC (49 * (ON i).toNatClampNeg + j) - TC (49 * (TW i).toNatClampNeg + j)).toInt64
  else if PT i = 22 then mBnd ((TC (49 * (ON i).toNatClampNeg + j)).toInt64 * (TC (49 * (TW i).toNatClampNeg + j)).toInt64)
  else if PT i = 23 then (if TC (49 * (TW i).toNatClampNeg + j) ≤ TC (49 * (ON i).toNatClampNeg + j) then TC (49 * (TW i).toNatClampNeg + j) else TC (49 * (ON i).toNatClampNeg + j))
  else (if TC (49 * (TW i).toNatClampNeg + j) ≤ TC (49 * (ON i).toNatClampNeg + j) then TC (49 * (ON i).toNatClampNeg + j) else TC (49 * (TW i).toNatClampNeg + j))
/-- a part's operands are parts ahead of it -/
def pOK (PT ON TW : Nat → Int32) (i : Nat) : Prop := PT i = 0 ∨ PT i = 1 ∨ PT i = 2 ∨ ((PT i = 10 ∨ PT i = 11 ∨ PT i = 12 ∨ PT i = 13) ∧ ∃ a : Nat, a < i ∧ ON i = nI a) ∨ ((PT i = 20 ∨ PT i = 21 ∨ PT i = 22 ∨ PT i = 23 ∨ PT i = 24) ∧ ∃ a b : Nat, a < i ∧ b < i ∧ ON i = nI a ∧ TW i = nI b)
set_option maxHeartbeats 8000000 in
set_option maxRecDepth 100000 in
theorem k_X11_bound (l : Launch) (t : Nat → ClassId) (hfl : l.stackTraces = false) (m0 : Nat) (v : Int64) : jKx l t yX11_bound (Cond.code yX11_bound cX11_bound 3 (some .int) :: jWS) { frames := 0, cells := 0, slots := 0, locals := 0 } [.ref m0, .long v] [] (fun vv uu => (vv = some (.int (mBnd v)) ∧ uu = [])) (fun _ _ => False) := by
  refine jK_of hfl (by decide +kernel) (Nat.le_of_ble_eq_true rfl) ?_
  intro p e s m args below meth c D A Q CC MM
  refine jr_norm0 [(0, .ref m0), (1, .long v)] rfl ?_
  refine jr_lload_n CC (jd ddX11_bound 0 rfl) 1 rfl ?_
  refine jr_ldc2 CC (jk_X11_214 CC.2.2.2.2.1) (jd ddX11_bound 1 rfl) ?_
  refine jr_lcmp CC (jd ddX11_bound 2 rfl) ?_
  refine jr_if_ge 13 CC (jd ddX11_bound 3 rfl) (by decide) (fun c1 => ?_) (fun c1 => ?_)
  · refine jr_lload_n CC (jd ddX11_bound 6 rfl) 1 rfl ?_
    refine jr_ldc2 CC (jk_X11_217 CC.2.2.2.2.1) (jd ddX11_bound 7 rfl) ?_
    refine jr_lcmp CC (jd ddX11_bound 8 rfl) ?_
    refine jr_if_le 26 CC (jd ddX11_bound 9 rfl) (by decide) (fun c2 => ?_) (fun c2 => ?_)
    · refine jr_lload_n CC (jd ddX11_bound 12 rfl) 1 rfl ?_
      refine jr_l2i CC (jd ddX11_bound 13 rfl) ?_
      refine jr_pc (pc' := 28) rfl ?_
      exact jr_iret CC MM (jd ddX11_bound 14 rfl) rfl (by decide) (by decide) ⟨by simp [mBnd, c1, c2], rfl⟩
    · refine jr_ldc CC (jk_X11_219 CC.2.2.2.2.1) (jd ddX11_bound 10 rfl) ?_
      refine jr_goto 28 CC (jd ddX11_bound 11 rfl) (by decide) ?_
      exact jr_iret CC MM (jd ddX11_bound 14 rfl) rfl (by decide) (by decide) ⟨by simp [mBnd, c1, c2], rfl⟩
  · refine jr_ldc CC (jk_X11_216 CC.2.2.2.2.1) (jd ddX11_bound 4 rfl) ?_
    refine jr_goto 28 CC (jd ddX11_bound 5 rfl) (by decide) ?_
    exact jr_iret CC MM (jd ddX11_bound 14 rfl) rfl (by decide) (by decide) ⟨by simp [mBnd, c1], rfl⟩
set_option maxHeartbeats 8000000 in
set_option maxRecDepth 100000 in
theorem k_X11_tellsPart_0 (l : Launch) (t : Nat → ClassId) (hfl : l.stackTraces = false) (m0 : Nat) (mb : Nat → Nat) (R : Nat → Int32) (CU : Nat → Int32) (PT : Nat → Int32) (ON : Nat → Int32) (TW : Nat → Int32) (TC : Nat → Int32) (r : Nat) (i : Nat) (j : Nat) (hr : r < 8) (hi : i < 16) (hj : j < 49) (hpt : PT i = 0) : jKx l t yX11_tellsPart (Cond.code yX11_tellsPart cX11_tellsPart 6 (some .int) :: jWS) { frames := 1, cells := 0, slots := 0, locals := 23 } [.ref m0, .int (nI i), .int (nI r), .int (nI j)] [(m0, .inr (10, jmdl R mb)), ((mb 2), .inl (t 0, 784, .inl CU)), ((mb 8), .inl (t 0, 16, .inl PT)), ((mb 9), .inl (t 0, 16, .inl ON)), ((mb 10), .inl (t 0, 16, .inl TW)), ((mb 12), .inl (t 0, 784, .inl TC))] (fun vv uu => (vv = some (.int (tPart CU PT ON TW TC r i j)) ∧ uu = [(m0, .inr (10, jmdl R mb)), ((mb 2), .inl (t 0, 784, .inl CU)), ((mb 8), .inl (t 0, 16, .inl PT)), ((mb 9), .inl (t 0, 16, .inl ON)), ((mb 10), .inl (t 0, 16, .inl TW)), ((mb 12), .inl (t 0, 784, .inl TC))])) (fun _ _ => False) := by
  refine jK_of hfl (by decide +kernel) (Nat.le_of_ble_eq_true rfl) ?_
  intro p e s m args below meth c D A Q CC MM
  refine jr_norm0 [(0, .ref m0), (1, .int (nI i)), (2, .int (nI r)), (3, .int (nI j))] rfl ?_
  refine jr_aload_n CC (jd ddX11_tellsPart 0 rfl) 0 rfl ?_
  refine jr_get (v := .ref (mb 8)) CC (jd ddX11_tellsPart 1 rfl) (jf_X11_49 CC) 0 rfl rfl ?_
  refine jr_iload_n CC (jd ddX11_tellsPart 2 rfl) 1 rfl ?_
  refine jr_ialdN CC (jd ddX11_tellsPart 3 rfl) 2 i rfl rfl (by omega) (by decide) ?_
  refine jr_st [.int 0] (jst1 hpt) ?_
  refine jr_bipush (v := 10) CC (jd ddX11_tellsPart 4 rfl) (by decide) ?_
  refine jr_icmp_ge 15 CC (jd ddX11_tellsPart 5 rfl) (by decide) (fun h => absurd h (by decide)) (fun _ => ?_)
  refine jr_iconst (v := 0) CC (jd ddX11_tellsPart 6 rfl) (by decide) ?_
  refine jr_goto 31 CC (jd ddX11_tellsPart 7 rfl) (by decide) ?_
  refine jr_istore [(4, .int 0), (0, .ref m0), (1, .int (nI i)), (2, .int (nI r)), (3, .int (nI j))] CC (jd ddX11_tellsPart 19 rfl) (by decide) rfl ?_
  refine jr_aload_n CC (jd ddX11_tellsPart 20 rfl) 1 rfl ?_
  refine jr_get (v := .ref (mb 8)) CC (jd ddX11_tellsPart 21 rfl) (jf_X11_49 CC) 0 rfl rfl ?_
  refine jr_iload_n CC (jd ddX11_tellsPart 22 rfl) 2 rfl ?_
  refine jr_ialdN CC (jd ddX11_tellsPart 23 rfl) 2 i rfl rfl (by omega) (by decide) ?_
  refine jr_st [.int 0] (jst1 hpt) ?_
  refine jr_bipush (v := 20) CC (jd ddX11_tellsPart 24 rfl) (by decide) ?_
  refine jr_icmp_ge 48 CC (jd ddX11_tellsPart 25 rfl) (by decide) (fun h => absurd h (by decide)) (fun _ => ?_)
  refine jr_iconst (v := 0) CC (jd ddX11_tellsPart 26 rfl) (by decide) ?_
  refine jr_goto 64 CC (jd ddX11_tellsPart 27 rfl) (by decide) ?_
  refine jr_istore [(5, .int 0), (4, .int 0), (0, .ref m0), (1, .int (nI i)), (2, .int (nI r)), (3, .int (nI j))] CC (jd ddX11_tellsPart 39 rfl) (by decide) rfl ?_
  refine jr_aload_n CC (jd ddX11_tellsPart 40 rfl) 2 rfl ?_
  refine jr_get (v := .ref (mb 8)) CC (jd ddX11_tellsPart 41 rfl) (jf_X11_49 CC) 0 rfl rfl ?_
  refine jr_iload_n CC (jd ddX11_tellsPart 42 rfl) 3 rfl ?_
  refine jr_ialdN CC (jd ddX11_tellsPart 43 rfl) 2 i rfl rfl (by omega) (by decide) ?_
  refine jr_st [.int 0] (jst1 hpt) ?_
  refine jr_tabIn 184 CC (jd ddX11_tellsPart 44 rfl) (by decide) (by decide) rfl (by decide) ?_
  refine jr_aload_n CC (jd ddX11_tellsPart 45 rfl) 2 rfl ?_
  refine jr_iload_n CC (jd ddX11_tellsPart 46 rfl) 4 rfl ?_
  refine jr_aload_n CC (jd ddX11_tellsPart 47 rfl) 2 rfl ?_
  refine jr_get (v := .ref (mb 8)) CC (jd ddX11_tellsPart 48 rfl) (jf_X11_49 CC) 0 rfl rfl ?_
  refine jr_pc (pc' := 190) rfl ?_
  refine jr_iload_n CC (jd ddX11_tellsPart 49 rfl) 3 rfl ?_
  refine jr_ialdN CC (jd ddX11_tellsPart 50 rfl) 2 i rfl rfl (by omega) (by decide) ?_
  refine jr_st [.int 0, .int (nI r), .ref m0] (jst1 hpt) ?_
  refine jr_iload_n CC (jd ddX11_tellsPart 51 rfl) 5 rfl ?_
  refine jr_callV (q0 := 0) (rest := []) [.int (nI r), .int 0, .int (nI j)] CC (jd ddX11_tellsPart 52 rfl) (jy_X11_195 CC) (k_X11_at l t hfl m0 mb R CU r 0 j hr (by decide) hj) [0, 1] rfl (by decide) rfl rfl rfl rfl (by decide) (Nat.le_of_ble_eq_true rfl) (by rintro v u h; rcases h with ⟨rfl, rfl⟩ <;> exact (show ([m0, (mb 2)] : List Nat) = [m0, (mb 2)] from rfl)) (fun _ _ h => h.elim) (fun _ _ h => h.elim) (fun v u h => ?_)
  rcases h with ⟨rfl, rfl⟩
  refine jr_norm [(m0, .inr (10, jmdl R mb)), ((mb 2), .inl (t 0, 784, .inl CU)), ((mb 8), .inl (t 0, 16, .inl PT)), ((mb 9), .inl (t 0, 16, .inl ON)), ((mb 10), .inl (t 0, 16, .inl TW)), ((mb 12), .inl (t 0, 784, .inl TC))] [.int (mcol CU r 0 j)] 196 0 0 rfl rfl rfl rfl rfl ?_
  exact jr_iret CC MM (jd ddX11_tellsPart 53 rfl) rfl (by decide) (by decide) ⟨by simp [tPart, hpt], rfl⟩
set_option maxHeartbeats 8000000 in
set_option maxRecDepth 100000 in
theorem k_X11_tellsPart_1 (l : Launch) (t : Nat → ClassId) (hfl : l.stackTraces = false) (m0 : Nat) (mb : Nat → Nat) (R : Nat → Int32) (CU : Nat → Int32) (PT : Nat → Int32) (ON : Nat → Int32) (TW : Nat → Int32) (TC : Nat → Int32) (r : Nat) (i : Nat) (j : Nat) (hr : r < 8) (hi : i < 16) (hj : j < 49) (hpt : PT i = 1) : jKx l t yX11_tellsPart (Cond.code yX11_tellsPart cX11_tellsPart 6 (some .int) :: jWS) { frames := 1, cells := 0, slots := 0, locals := 23 } [.ref m0, .int (nI i), .int (nI r), .int (nI j)] [(m0, .inr (10, jmdl R mb)), ((mb 2), .inl (t 0, 784, .inl CU)), ((mb 8), .inl (t 0, 16, .inl PT)), ((mb 9), .inl (t 0, 16, .inl ON)), ((mb 10), .inl (t 0, 16, .inl TW)), ((mb 12), .inl (t 0, 784, .inl TC))] (fun vv uu => (vv = some (.int (tPart CU PT ON TW TC r i j)) ∧ uu = [(m0, .inr (10, jmdl R mb)), ((mb 2), .inl (t 0, 784, .inl CU)), ((mb 8), .inl (t 0, 16, .inl PT)), ((mb 9), .inl (t 0, 16, .inl ON)), ((mb 10), .inl (t 0, 16, .inl TW)), ((mb 12), .inl (t 0, 784, .inl TC))])) (fun _ _ => False) := by
  refine jK_of hfl (by decide +kernel) (Nat.le_of_ble_eq_true rfl) ?_
  intro p e s m args below meth c D A Q CC MM
  refine jr_norm0 [(0, .ref m0), (1, .int (nI i)), (2, .int (nI r)), (3, .int (nI j))] rfl ?_
  refine jr_aload_n CC (jd ddX11_tellsPart 0 rfl) 0 rfl ?_
  refine jr_get (v := .ref (mb 8)) CC (jd ddX11_tellsPart 1 rfl) (jf_X11_49 CC) 0 rfl rfl ?_
  refine jr_iload_n CC (jd ddX11_tellsPart 2 rfl) 1 rfl ?_
  refine jr_ialdN CC (jd ddX11_tellsPart 3 rfl) 2 i rfl rfl (by omega) (by decide) ?_
  refine jr_st [.int 1] (jst1 hpt) ?_
  refine jr_bipush (v := 10) CC (jd ddX11_tellsPart 4 rfl) (by decide) ?_
  refine jr_icmp_ge 15 CC (jd ddX11_tellsPart 5 rfl) (by decide) (fun h => absurd h (by decide)) (fun _ => ?_)
  refine jr_iconst (v := 0) CC (jd ddX11_tellsPart 6 rfl) (by decide) ?_
  refine jr_goto 31 CC (jd ddX11_tellsPart 7 rfl) (by decide) ?_
  refine jr_istore [(4, .int 0), (0, .ref m0), (1, .int (nI i)), (2, .int (nI r)), (3, .int (nI j))] CC (jd ddX11_tellsPart 19 rfl) (by decide) rfl ?_
  refine jr_aload_n CC (jd ddX11_tellsPart 20 rfl) 1 rfl ?_
  refine jr_get (v := .ref (mb 8)) CC (jd ddX11_tellsPart 21 rfl) (jf_X11_49 CC) 0 rfl rfl ?_
  refine jr_iload_n CC (jd ddX11_tellsPart 22 rfl) 2 rfl ?_
  refine jr_ialdN CC (jd ddX11_tellsPart 23 rfl) 2 i rfl rfl (by omega) (by decide) ?_
  refine jr_st [.int 1] (jst1 hpt) ?_
  refine jr_bipush (v := 20) CC (jd ddX11_tellsPart 24 rfl) (by decide) ?_
  refine jr_icmp_ge 48 CC (jd ddX11_tellsPart 25 rfl) (by decide) (fun h => absurd h (by decide)) (fun _ => ?_)
  refine jr_iconst (v := 0) CC (jd ddX11_tellsPart 26 rfl) (by decide) ?_
  refine jr_goto 64 CC (jd ddX11_tellsPart 27 rfl) (by decide) ?_
  refine jr_istore [(5, .int 0), (4, .int 0), (0, .ref m0), (1, .int (nI i)), (2, .int (nI r)), (3, .int (nI j))] CC (jd ddX11_tellsPart 39 rfl) (by decide) rfl ?_
  refine jr_aload_n CC (jd ddX11_tellsPart 40 rfl) 2 rfl ?_
  refine jr_get (v := .ref (mb 8)) CC (jd ddX11_tellsPart 41 rfl) (jf_X11_49 CC) 0 rfl rfl ?_
  refine jr_iload_n CC (jd ddX11_tellsPart 42 rfl) 3 rfl ?_
  refine jr_ialdN CC (jd ddX11_tellsPart 43 rfl) 2 i rfl rfl (by omega) (by decide) ?_
  refine jr_st [.int 1] (jst1 hpt) ?_
  refine jr_tabIn 184 CC (jd ddX11_tellsPart 44 rfl) (by decide) (by decide) rfl (by decide) ?_
  refine jr_aload_n CC (jd ddX11_tellsPart 45 rfl) 2 rfl ?_
  refine jr_iload_n CC (jd ddX11_tellsPart 46 rfl) 4 rfl ?_
  refine jr_aload_n CC (jd ddX11_tellsPart 47 rfl) 2 rfl ?_
  refine jr_get (v := .ref (mb 8)) CC (jd ddX11_tellsPart 48 rfl) (jf_X11_49 CC) 0 rfl rfl ?_
  refine jr_pc (pc' := 190) rfl ?_
  refine jr_iload_n CC (jd ddX11_tellsPart 49 rfl) 3 rfl ?_
  refine jr_ialdN CC (jd ddX11_tellsPart 50 rfl) 2 i rfl rfl (by omega) (by decide) ?_
  refine jr_st [.int 1, .int (nI r), .ref m0] (jst1 hpt) ?_
  refine jr_iload_n CC (jd ddX11_tellsPart 51 rfl) 5 rfl ?_
  refine jr_callV (q0 := 0) (rest := []) [.int (nI r), .int 1, .int (nI j)] CC (jd ddX11_tellsPart 52 rfl) (jy_X11_195 CC) (k_X11_at l t hfl m0 mb R CU r 1 j hr (by decide) hj) [0, 1] rfl (by decide) rfl rfl rfl rfl (by decide) (Nat.le_of_ble_eq_true rfl) (by rintro v u h; rcases h with ⟨rfl, rfl⟩ <;> exact (show ([m0, (mb 2)] : List Nat) = [m0, (mb 2)] from rfl)) (fun _ _ h => h.elim) (fun _ _ h => h.elim) (fun v u h => ?_)
  rcases h with ⟨rfl, rfl⟩
  refine jr_norm [(m0, .inr (10, jmdl R mb)), ((mb 2), .inl (t 0, 784, .inl CU)), ((mb 8), .inl (t 0, 16, .inl PT)), ((mb 9), .inl (t 0, 16, .inl ON)), ((mb 10), .inl (t 0, 16, .inl TW)), ((mb 12), .inl (t 0, 784, .inl TC))] [.int (mcol CU r 1 j)] 196 0 0 rfl rfl rfl rfl rfl ?_
  exact jr_iret CC MM (jd ddX11_tellsPart 53 rfl) rfl (by decide) (by decide) ⟨by simp [tPart, hpt], rfl⟩
set_option maxHeartbeats 8000000 in
set_option maxRecDepth 100000 in
theorem k_X11_tellsPart_2 (l : Launch) (t : Nat → ClassId) (hfl : l.stackTraces = false) (m0 : Nat) (mb : Nat → Nat) (R : Nat → Int32) (CU : Nat → Int32) (PT : Nat → Int32) (ON : Nat → Int32) (TW : Nat → Int32) (TC : Nat → Int32) (r : Nat) (i : Nat) (j : Nat) (hr : r < 8) (hi : i < 16) (hj : j < 49) (hpt : PT i = 2) : jKx l t yX11_tellsPart (Cond.code yX11_tellsPart cX11_tellsPart 6 (some .int) :: jWS) { frames := 1, cells := 0, slots := 0, locals := 23 } [.ref m0, .int (nI i), .int (nI r), .int (nI j)] [(m0, .inr (10, jmdl R mb)), ((mb 2), .inl (t 0, 784, .inl CU)), ((mb 8), .inl (t 0, 16, .inl PT)), ((mb 9), .inl (t 0, 16, .inl ON)), ((mb 10), .inl (t 0, 16, .inl TW)), ((mb 12), .inl (t 0, 784, .inl TC))] (fun vv uu => (vv = some (.int (tPart CU PT ON TW TC r i j)) ∧ uu = [(m0, .inr (10, jmdl R mb)), ((mb 2), .inl (t 0, 784, .inl CU)), ((mb 8), .inl (t 0, 16, .inl PT)), ((mb 9), .inl (t 0, 16, .inl ON)), ((mb 10), .inl (t 0, 16, .inl TW)), ((mb 12), .inl (t 0, 784, .inl TC))])) (fun _ _ => False) := by
  refine jK_of hfl (by decide +kernel) (Nat.le_of_ble_eq_true rfl) ?_
  intro p e s m args below meth c D A Q CC MM
  refine jr_norm0 [(0, .ref m0), (1, .int (nI i)), (2, .int (nI r)), (3, .int (nI j))] rfl ?_
  refine jr_aload_n CC (jd ddX11_tellsPart 0 rfl) 0 rfl ?_
  refine jr_get (v := .ref (mb 8)) CC (jd ddX11_tellsPart 1 rfl) (jf_X11_49 CC) 0 rfl rfl ?_
  refine jr_iload_n CC (jd ddX11_tellsPart 2 rfl) 1 rfl ?_
  refine jr_ialdN CC (jd ddX11_tellsPart 3 rfl) 2 i rfl rfl (by omega) (by decide) ?_
  refine jr_st [.int 2] (jst1 hpt) ?_
  refine jr_bipush (v := 10) CC (jd ddX11_tellsPart 4 rfl) (by decide) ?_
  refine jr_icmp_ge 15 CC (jd ddX11_tellsPart 5 rfl) (by decide) (fun h => absurd h (by decide)) (fun _ => ?_)
  refine jr_iconst (v := 0) CC (jd ddX11_tellsPart 6 rfl) (by decide) ?_
  refine jr_goto 31 CC (jd ddX11_tellsPart 7 rfl) (by decide) ?_
  refine jr_istore [(4, .int 0), (0, .ref m0), (1, .int (nI i)), (2, .int (nI r)), (3, .int (nI j))] CC (jd ddX11_tellsPart 19 rfl) (by decide) rfl ?_
  refine jr_aload_n CC (jd ddX11_tellsPart 20 rfl) 1 rfl ?_
  refine jr_get (v := .ref (mb 8)) CC (jd ddX11_tellsPart 21 rfl) (jf_X11_49 CC) 0 rfl rfl ?_
  refine jr_iload_n CC (jd ddX11_tellsPart 22 rfl) 2 rfl ?_
  refine jr_ialdN CC (jd ddX11_tellsPart 23 rfl) 2 i rfl rfl (by omega) (by decide) ?_
  refine jr_st [.int 2] (jst1 hpt) ?_
  refine jr_bipush (v := 20) CC (jd ddX11_tellsPart 24 rfl) (by decide) ?_
  refine jr_icmp_ge 48 CC (jd ddX11_tellsPart 25 rfl) (by decide) (fun h => absurd h (by decide)) (fun _ => ?_)
  refine jr_iconst (v := 0) CC (jd ddX11_tellsPart 26 rfl) (by decide) ?_
  refine jr_goto 64 CC (jd ddX11_tellsPart 27 rfl) (by decide) ?_
  refine jr_istore [(5, .int 0), (4, .int 0), (0, .ref m0), (1, .int (nI i)), (2, .int (nI r)), (3, .int (nI j))] CC (jd ddX11_tellsPart 39 rfl) (by decide) rfl ?_
  refine jr_aload_n CC (jd ddX11_tellsPart 40 rfl) 2 rfl ?_
  refine jr_get (v := .ref (mb 8)) CC (jd ddX11_tellsPart 41 rfl) (jf_X11_49 CC) 0 rfl rfl ?_
  refine jr_iload_n CC (jd ddX11_tellsPart 42 rfl) 3 rfl ?_
  refine jr_ialdN CC (jd ddX11_tellsPart 43 rfl) 2 i rfl rfl (by omega) (by decide) ?_
  refine jr_st [.int 2] (jst1 hpt) ?_
  refine jr_tabIn 197 CC (jd ddX11_tellsPart 44 rfl) (by decide) (by decide) rfl (by decide) ?_
  refine jr_aload_n CC (jd ddX11_tellsPart 54 rfl) 2 rfl ?_
  refine jr_get (v := .ref (mb 9)) CC (jd ddX11_tellsPart 55 rfl) (jf_X11_52 CC) 0 rfl rfl ?_
  refine jr_iload_n CC (jd ddX11_tellsPart 56 rfl) 3 rfl ?_
  refine jr_ialdN CC (jd ddX11_tellsPart 57 rfl) 3 i rfl rfl (by omega) (by decide) ?_
  refine jr_pc (pc' := 203) rfl ?_
  exact jr_iret CC MM (jd ddX11_tellsPart 58 rfl) rfl (by decide) (by decide) ⟨by simp [tPart, hpt], rfl⟩
set_option maxHeartbeats 8000000 in
set_option maxRecDepth 100000 in
theorem k_X11_tellsPart_10 (l : Launch) (t : Nat → ClassId) (hfl : l.stackTraces = false) (m0 : Nat) (mb : Nat → Nat) (R : Nat → Int32) (CU : Nat → Int32) (PT : Nat → Int32) (ON : Nat → Int32) (TW : Nat → Int32) (TC : Nat → Int32) (r : Nat) (i : Nat) (j : Nat) (a : Nat) (hr : r < 8) (hi : i < 16) (hj : j < 49) (hpt : PT i = 10) (hON : ON i = nI a) (ha : a < 16) : jKx l t yX11_tellsPart (Cond.code yX11_tellsPart cX11_tellsPart 6 (some .int) :: jWS) { frames := 1, cells := 0, slots := 0, locals := 23 } [.ref m0, .int (nI i), .int (nI r), .int (nI j)] [(m0, .inr (10, jmdl R mb)), ((mb 2), .inl (t 0, 784, .inl CU)), ((mb 8), .inl (t 0, 16, .inl PT)), ((mb 9), .inl (t 0, 16, .inl ON)), ((mb 10), .inl (t 0, 16, .inl TW)), ((mb 12), .inl (t 0, 784, .inl TC))] (fun vv uu => (vv = some (.int (tPart CU PT ON TW TC r i j)) ∧ uu = [(m0, .inr (10, jmdl R mb)), ((mb 2), .inl (t 0, 784, .inl CU)), ((mb 8), .inl (t 0, 16, .inl PT)), ((mb 9), .inl (t 0, 16, .inl ON)), ((mb 10), .inl (t 0, 16, .inl TW)), ((mb 12), .inl (t 0, 784, .inl TC))])) (fun _ _ => False) := by
  refine jK_of hfl (by decide +kernel) (Nat.le_of_ble_eq_true rfl) ?_
  intro p e s m args below meth c D A Q CC MM
  refine jr_norm0 [(0, .ref m0), (1, .int (nI i)), (2, .int (nI r)), (3, .int (nI j))] rfl ?_
  refine jr_aload_n CC (jd ddX11_tellsPart 0 rfl) 0 rfl ?_
  refine jr_get (v := .ref (mb 8)) CC (jd ddX11_tellsPart 1 rfl) (jf_X11_49 CC) 0 rfl rfl ?_
  refine jr_iload_n CC (jd ddX11_tellsPart 2 rfl) 1 rfl ?_
  refine jr_ialdN CC (jd ddX11_tellsPart 3 rfl) 2 i rfl rfl (by omega) (by decide) ?_
  refine jr_st [.int 10] (jst1 hpt) ?_
  refine jr_bipush (v := 10) CC (jd ddX11_tellsPart 4 rfl) (by decide) ?_
  refine jr_icmp_ge 15 CC (jd ddX11_tellsPart 5 rfl) (by decide) (fun _ => ?_) (fun h => absurd h (by decide))
  refine jr_aload_n CC (jd ddX11_tellsPart 8 rfl) 0 rfl ?_
  refine jr_get (v := .ref (mb 12)) CC (jd ddX11_tellsPart 9 rfl) (jf_X11_61 CC) 0 rfl rfl ?_
  refine jr_bipush (v := 49) CC (jd ddX11_tellsPart 10 rfl) (by decide) ?_
  refine jr_aload_n CC (jd ddX11_tellsPart 11 rfl) 0 rfl ?_
  refine jr_pc (pc' := 22) rfl ?_
  refine jr_get (v := .ref (mb 9)) CC (jd ddX11_tellsPart 12 rfl) (jf_X11_52 CC) 0 rfl rfl ?_
  refine jr_iload_n CC (jd ddX11_tellsPart 13 rfl) 1 rfl ?_
  refine jr_ialdN CC (jd ddX11_tellsPart 14 rfl) 3 i rfl rfl (by omega) (by decide) ?_
  refine jr_st [.int (nI a), .int 49, .ref (mb 12)] (jst1 hON) ?_
  refine jr_imul CC (jd ddX11_tellsPart 15 rfl) ?_
  refine jr_st [.int (nI (49 * a)), .ref (mb 12)] (jst1 (pk_mul 49 a)) ?_
  refine jr_iload_n CC (jd ddX11_tellsPart 16 rfl) 3 rfl ?_
  refine jr_iadd CC (jd ddX11_tellsPart 17 rfl) ?_
  refine jr_st [.int (nI ((49 * a) + j)), .ref (mb 12)] (jst1 (nI_add (49 * a) j)) ?_
  refine jr_ialdN CC (jd ddX11_tellsPart 18 rfl) 5 ((49 * a) + j) rfl rfl (by omega) (by decide) ?_
  refine jr_istore [(4, .int (TC ((49 * a) + j))), (0, .ref m0), (1, .int (nI i)), (2, .int (nI r)), (3, .int (nI j))] CC (jd ddX11_tellsPart 19 rfl) (by decide) rfl ?_
  refine jr_aload_n CC (jd ddX11_tellsPart 20 rfl) 1 rfl ?_
  refine jr_get (v := .ref (mb 8)) CC (jd ddX11_tellsPart 21 rfl) (jf_X11_49 CC) 0 rfl rfl ?_
  refine jr_pc (pc' := 37) rfl ?_
  refine jr_iload_n CC (jd ddX11_tellsPart 22 rfl) 2 rfl ?_
  refine jr_ialdN CC (jd ddX11_tellsPart 23 rfl) 2 i rfl rfl (by omega) (by decide) ?_
  refine jr_st [.int 10] (jst1 hpt) ?_
  refine jr_bipush (v := 20) CC (jd ddX11_tellsPart 24 rfl) (by decide) ?_
  refine jr_icmp_ge 48 CC (jd ddX11_tellsPart 25 rfl) (by decide) (fun h => absurd h (by decide)) (fun _ => ?_)
  refine jr_iconst (v := 0) CC (jd ddX11_tellsPart 26 rfl) (by decide) ?_
  refine jr_goto 64 CC (jd ddX11_tellsPart 27 rfl) (by decide) ?_
  refine jr_istore [(5, .int 0), (4, .int (TC ((49 * a) + j))), (0, .ref m0), (1, .int (nI i)), (2, .int (nI r)), (3, .int (nI j))] CC (jd ddX11_tellsPart 39 rfl) (by decide) rfl ?_
  refine jr_aload_n CC (jd ddX11_tellsPart 40 rfl) 2 rfl ?_
  refine jr_get (v := .ref (mb 8)) CC (jd ddX11_tellsPart 41 rfl) (jf_X11_49 CC) 0 rfl rfl ?_
  refine jr_iload_n CC (jd ddX11_tellsPart 42 rfl) 3 rfl ?_
  refine jr_ialdN CC (jd ddX11_tellsPart 43 rfl) 2 i rfl rfl (by omega) (by decide) ?_
  refine jr_st [.int 10] (jst1 hpt) ?_
  refine jr_tabIn 204 CC (jd ddX11_tellsPart 44 rfl) (by decide) (by decide) rfl (by decide) ?_
  refine jr_aload_n CC (jd ddX11_tellsPart 59 rfl) 2 rfl ?_
  refine jr_iload CC (jd ddX11_tellsPart 60 rfl) 1 rfl ?_
  refine jr_ineg CC (jd ddX11_tellsPart 61 rfl) ?_
  refine jr_i2l CC (jd ddX11_tellsPart 62 rfl) ?_
  refine jr_pc (pc' := 209) rfl ?_
  refine jr_callV (q0 := 0) (rest := []) [.long (Int32.toInt64 (-(TC ((49 * a) + j))))] CC (jd ddX11_tellsPart 63 rfl) (jy_X11_220 CC) (k_X11_bound l t hfl m0 (Int32.toInt64 (-(TC ((49 * a) + j))))) [] rfl (by decide) rfl rfl rfl rfl (by decide) (Nat.le_of_ble_eq_true rfl) (by rintro v u h; rcases h with ⟨rfl, rfl⟩ <;> rfl) (fun _ _ h => h.elim) (fun _ _ h => h.elim) (fun v u h => ?_)
  rcases h with ⟨rfl, rfl⟩
  refine jr_norm [(m0, .inr (10, jmdl R mb)), ((mb 2), .inl (t 0, 784, .inl CU)), ((mb 8), .inl (t 0, 16, .inl PT)), ((mb 9), .inl (t 0, 16, .inl ON)), ((mb 10), .inl (t 0, 16, .inl TW)), ((mb 12), .inl (t 0, 784, .inl TC))] [.int (mBnd (Int32.toInt64 (-(TC ((49 * a) + j)))))] 212 0 0 rfl rfl rfl rfl rfl ?_
  exact jr_iret CC MM (jd ddX11_tellsPart 64 rfl) rfl (by decide) (by decide) ⟨by simp [tPart, hpt, hON, nI_tn (show a < 2147483648 by omega)], rfl⟩
set_option maxHeartbeats 8000000 in
set_option maxRecDepth 100000 in
theorem k_X11_tellsPart_11 (l : Launch) (t : Nat → ClassId) (hfl : l.stackTraces = false) (m0 : Nat) (mb : Nat → Nat) (R : Nat → Int32) (CU : Nat → Int32) (PT : Nat → Int32) (ON : Nat → Int32) (TW : Nat → Int32) (TC : Nat → Int32) (r : Nat) (i : Nat) (j : Nat) (a : Nat) (hr : r < 8) (hi : i < 16) (hj : j < 49) (hpt : PT i = 11) (hON : ON i = nI a) (ha : a < 16) : jKx l t yX11_tellsPart (Cond.code yX11_tellsPart cX11_tellsPart 6 (some .int) :: jWS) { frames := 1, cells := 0, slots := 0, locals := 23 } [.ref m0, .int (nI i), .int (nI r), .int (nI j)] [(m0, .inr (10, jmdl R mb)), ((mb 2), .inl (t 0, 784, .inl CU)), ((mb 8), .inl (t 0, 16, .inl PT)), ((mb 9), .inl (t 0, 16, .inl ON)), ((mb 10), .inl (t 0, 16, .inl TW)), ((mb 12), .inl (t 0, 784, .inl TC))] (fun vv uu => (vv = some (.int (tPart CU PT ON TW TC r i j)) ∧ uu = [(m0, .inr (10, jmdl R mb)), ((mb 2), .inl (t 0, 784, .inl CU)), ((mb 8), .inl (t 0, 16, .inl PT)), ((mb 9), .inl (t 0, 16, .inl ON)), ((mb 10), .inl (t 0, 16, .inl TW)), ((mb 12), .inl (t 0, 784, .inl TC))])) (fun _ _ => False) := by
  refine jK_of hfl (by decide +kernel) (Nat.le_of_ble_eq_true rfl) ?_
  intro p e s m args below meth c D A Q CC MM
  refine jr_norm0 [(0, .ref m0), (1, .int (nI i)), (2, .int (nI r)), (3, .int (nI j))] rfl ?_
  refine jr_aload_n CC (jd ddX11_tellsPart 0 rfl) 0 rfl ?_
  refine jr_get (v := .ref (mb 8)) CC (jd ddX11_tellsPart 1 rfl) (jf_X11_49 CC) 0 rfl rfl ?_
  refine jr_iload_n CC (jd ddX11_tellsPart 2 rfl) 1 rfl ?_
  refine jr_ialdN CC (jd ddX11_tellsPart 3 rfl) 2 i rfl rfl (by omega) (by decide) ?_
  refine jr_st [.int 11] (jst1 hpt) ?_
  refine jr_bipush (v := 10) CC (jd ddX11_tellsPart 4 rfl) (by decide) ?_
  refine jr_icmp_ge 15 CC (jd ddX11_tellsPart 5 rfl) (by decide) (fun _ => ?_) (fun h => absurd h (by decide))
  refine jr_aload_n CC (jd ddX11_tellsPart 8 rfl) 0 rfl ?_
  refine jr_get (v := .ref (mb 12)) CC (jd ddX11_tellsPart 9 rfl) (jf_X11_61 CC) 0 rfl rfl ?_
  refine jr_bipush (v := 49) CC (jd ddX11_tellsPart 10 rfl) (by decide) ?_
  refine jr_aload_n CC (jd ddX11_tellsPart 11 rfl) 0 rfl ?_
  refine jr_pc (pc' := 22) rfl ?_
  refine jr_get (v := .ref (mb 9)) CC (jd ddX11_tellsPart 12 rfl) (jf_X11_52 CC) 0 rfl rfl ?_
  refine jr_iload_n CC (jd ddX11_tellsPart 13 rfl) 1 rfl ?_
  refine jr_ialdN CC (jd ddX11_tellsPart 14 rfl) 3 i rfl rfl (by omega) (by decide) ?_
  refine jr_st [.int (nI a), .int 49, .ref (mb 12)] (jst1 hON) ?_
  refine jr_imul CC (jd ddX11_tellsPart 15 rfl) ?_
  refine jr_st [.int (nI (49 * a)), .ref (mb 12)] (jst1 (pk_mul 49 a)) ?_
  refine jr_iload_n CC (jd ddX11_tellsPart 16 rfl) 3 rfl ?_
  refine jr_iadd CC (jd ddX11_tellsPart 17 rfl) ?_
  refine jr_st [.int (nI ((49 * a) + j)), .ref (mb 12)] (jst1 (nI_add (49 * a) j)) ?_
  refine jr_ialdN CC (jd ddX11_tellsPart 18 rfl) 5 ((49 * a) + j) rfl rfl (by omega) (by decide) ?_
  refine jr_istore [(4, .int (TC ((49 * a) + j))), (0, .ref m0), (1, .int (nI i)), (2, .int (nI r)), (3, .int (nI j))] CC (jd ddX11_tellsPart 19 rfl) (by decide) rfl ?_
  refine jr_aload_n CC (jd ddX11_tellsPart 20 rfl) 1 rfl ?_
  refine jr_get (v := .ref (mb 8)) CC (jd ddX11_tellsPart 21 rfl) (jf_X11_49 CC) 0 rfl rfl ?_
  refine jr_pc (pc' := 37) rfl ?_
  refine jr_iload_n CC (jd ddX11_tellsPart 22 rfl) 2 rfl ?_
  refine jr_ialdN CC (jd ddX11_tellsPart 23 rfl) 2 i rfl rfl (by omega) (by decide) ?_
  refine jr_st [.int 11] (jst1 hpt) ?_
  refine jr_bipush (v := 20) CC (jd ddX11_tellsPart 24 rfl) (by decide) ?_
  refine jr_icmp_ge 48 CC (jd ddX11_tellsPart 25 rfl) (by decide) (fun h => absurd h (by decide)) (fun _ => ?_)
  refine jr_iconst (v := 0) CC (jd ddX11_tellsPart 26 rfl) (by decide) ?_
  refine jr_goto 64 CC (jd ddX11_tellsPart 27 rfl) (by decide) ?_
  refine jr_istore [(5, .int 0), (4, .int (TC ((49 * a) + j))), (0, .ref m0), (1, .int (nI i)), (2, .int (nI r)), (3, .int (nI j))] CC (jd ddX11_tellsPart 39 rfl) (by decide) rfl ?_
  refine jr_aload_n CC (jd ddX11_tellsPart 40 rfl) 2 rfl ?_
  refine jr_get (v := .ref (mb 8)) CC (jd ddX11_tellsPart 41 rfl) (jf_X11_49 CC) 0 rfl rfl ?_
  refine jr_iload_n CC (jd ddX11_tellsPart 42 rfl) 3 rfl ?_
  refine jr_ialdN CC (jd ddX11_tellsPart 43 rfl) 2 i rfl rfl (by omega) (by decide) ?_
  refine jr_st [.int 11] (jst1 hpt) ?_
  refine jr_tabIn 213 CC (jd ddX11_tellsPart 44 rfl) (by decide) (by decide) rfl (by decide) ?_
  refine jr_aload_n CC (jd ddX11_tellsPart 65 rfl) 2 rfl ?_
  refine jr_iload CC (jd ddX11_tellsPart 66 rfl) 1 rfl ?_
  refine jr_if_ge 226 CC (jd ddX11_tellsPart 67 rfl) (by decide) (fun c3 => ?_) (fun c3 => ?_)
  · refine jr_iload CC (jd ddX11_tellsPart 72 rfl) 1 rfl ?_
    refine jr_pc (pc' := 228) rfl ?_
    refine jr_i2l CC (jd ddX11_tellsPart 73 rfl) ?_
    refine jr_callV (q0 := 0) (rest := []) [.long (Int32.toInt64 (TC ((49 * a) + j)))] CC (jd ddX11_tellsPart 74 rfl) (jy_X11_220 CC) (k_X11_bound l t hfl m0 (Int32.toInt64 (TC ((49 * a) + j)))) [] rfl (by decide) rfl rfl rfl rfl (by decide) (Nat.le_of_ble_eq_true rfl) (by rintro v u h; rcases h with ⟨rfl, rfl⟩ <;> rfl) (fun _ _ h => h.elim) (fun _ _ h => h.elim) (fun v u h => ?_)
    rcases h with ⟨rfl, rfl⟩
    refine jr_norm [(m0, .inr (10, jmdl R mb)), ((mb 2), .inl (t 0, 784, .inl CU)), ((mb 8), .inl (t 0, 16, .inl PT)), ((mb 9), .inl (t 0, 16, .inl ON)), ((mb 10), .inl (t 0, 16, .inl TW)), ((mb 12), .inl (t 0, 784, .inl TC))] [.int (mBnd (Int32.toInt64 (TC ((49 * a) + j))))] 232 0 0 rfl rfl rfl rfl rfl ?_
    exact jr_iret CC MM (jd ddX11_tellsPart 75 rfl) rfl (by decide) (by decide) ⟨by simp [tPart, hpt, hON, nI_tn (show a < 2147483648 by omega), c3], rfl⟩
  · refine jr_iload CC (jd ddX11_tellsPart 68 rfl) 1 rfl ?_
    refine jr_pc (pc' := 221) rfl ?_
    refine jr_ineg CC (jd ddX11_tellsPart 69 rfl) ?_
    refine jr_i2l CC (jd ddX11_tellsPart 70 rfl) ?_
    refine jr_goto 229 CC (jd ddX11_tellsPart 71 rfl) (by decide) ?_
    refine jr_callV (q0 := 0) (rest := []) [.long (Int32.toInt64 (-(TC ((49 * a) + j))))] CC (jd ddX11_tellsPart 74 rfl) (jy_X11_220 CC) (k_X11_bound l t hfl m0 (Int32.toInt64 (-(TC ((49 * a) + j))))) [] rfl (by decide) rfl rfl rfl rfl (by decide) (Nat.le_of_ble_eq_true rfl) (by rintro v u h; rcases h with ⟨rfl, rfl⟩ <;> rfl) (fun _ _ h => h.elim) (fun _ _ h => h.elim) (fun v u h => ?_)
    rcases h with ⟨rfl, rfl⟩
    refine jr_norm [(m0, .inr (10, jmdl R mb)), ((mb 2), .inl (t 0, 784, .inl CU)), ((mb 8), .inl (t 0, 16, .inl PT)), ((mb 9), .inl (t 0, 16, .inl ON)), ((mb 10), .inl (t 0, 16, .inl TW)), ((mb 12), .inl (t 0, 784, .inl TC))] [.int (mBnd (Int32.toInt64 (-(TC ((49 * a) + j)))))] 232 0 0 rfl rfl rfl rfl rfl ?_
    exact jr_iret CC MM (jd ddX11_tellsPart 75 rfl) rfl (by decide) (by decide) ⟨by simp [tPart, hpt, hON, nI_tn (show a < 2147483648 by omega), c3], rfl⟩
set_option maxHeartbeats 8000000 in
set_option maxRecDepth 100000 in
theorem k_X11_tellsPart_12 (l : Launch) (t : Nat → ClassId) (hfl : l.stackTraces = false) (m0 : Nat) (mb : Nat → Nat) (R : Nat → Int32) (CU : Nat → Int32) (PT : Nat → Int32) (ON : Nat → Int32) (TW : Nat → Int32) (TC : Nat → Int32) (r : Nat) (i : Nat) (j : Nat) (a : Nat) (hr : r < 8) (hi : i < 16) (hj : j < 49) (hpt : PT i = 12) (hON : ON i = nI a) (ha : a < 16) : jKx l t yX11_tellsPart (Cond.code yX11_tellsPart cX11_tellsPart 6 (some .int) :: jWS) { frames := 1, cells := 0, slots := 0, locals := 23 } [.ref m0, .int (nI i), .int (nI r), .int (nI j)] [(m0, .inr (10, jmdl R mb)), ((mb 2), .inl (t 0, 784, .inl CU)), ((mb 8), .inl (t 0, 16, .inl PT)), ((mb 9), .inl (t 0, 16, .inl ON)), ((mb 10), .inl (t 0, 16, .inl TW)), ((mb 12), .inl (t 0, 784, .inl TC))] (fun vv uu => (vv = some (.int (tPart CU PT ON TW TC r i j)) ∧ uu = [(m0, .inr (10, jmdl R mb)), ((mb 2), .inl (t 0, 784, .inl CU)), ((mb 8), .inl (t 0, 16, .inl PT)), ((mb 9), .inl (t 0, 16, .inl ON)), ((mb 10), .inl (t 0, 16, .inl TW)), ((mb 12), .inl (t 0, 784, .inl TC))])) (fun _ _ => False) := by
  refine jK_of hfl (by decide +kernel) (Nat.le_of_ble_eq_true rfl) ?_
  intro p e s m args below meth c D A Q CC MM
  refine jr_norm0 [(0, .ref m0), (1, .int (nI i)), (2, .int (nI r)), (3, .int (nI j))] rfl ?_
  refine jr_aload_n CC (jd ddX11_tellsPart 0 rfl) 0 rfl ?_
  refine jr_get (v := .ref (mb 8)) CC (jd ddX11_tellsPart 1 rfl) (jf_X11_49 CC) 0 rfl rfl ?_
  refine jr_iload_n CC (jd ddX11_tellsPart 2 rfl) 1 rfl ?_
  refine jr_ialdN CC (jd ddX11_tellsPart 3 rfl) 2 i rfl rfl (by omega) (by decide) ?_
  refine jr_st [.int 12] (jst1 hpt) ?_
  refine jr_bipush (v := 10) CC (jd ddX11_tellsPart 4 rfl) (by decide) ?_
  refine jr_icmp_ge 15 CC (jd ddX11_tellsPart 5 rfl) (by decide) (fun _ => ?_) (fun h => absurd h (by decide))
  refine jr_aload_n CC (jd ddX11_tellsPart 8 rfl) 0 rfl ?_
  refine jr_get (v := .ref (mb 12)) CC (jd ddX11_tellsPart 9 rfl) (jf_X11_61 CC) 0 rfl rfl ?_
  refine jr_bipush (v := 49) CC (jd ddX11_tellsPart 10 rfl) (by decide) ?_
  refine jr_aload_n CC (jd ddX11_tellsPart 11 rfl) 0 rfl ?_
  refine jr_pc (pc' := 22) rfl ?_
  refine jr_get (v := .ref (mb 9)) CC (jd ddX11_tellsPart 12 rfl) (jf_X11_52 CC) 0 rfl rfl ?_
  refine jr_iload_n CC (jd ddX11_tellsPart 13 rfl) 1 rfl ?_
  refine jr_ialdN CC (jd ddX11_tellsPart 14 rfl) 3 i rfl rfl (by omega) (by decide) ?_
  refine jr_st [.int (nI a), .int 49, .ref (mb 12)] (jst1 hON) ?_
  refine jr_imul CC (jd ddX11_tellsPart 15 rfl) ?_
  refine jr_st [.int (nI (49 * a)), .ref (mb 12)] (jst1 (pk_mul 49 a)) ?_
  refine jr_iload_n CC (jd ddX11_tellsPart 16 rfl) 3 rfl ?_
  refine jr_iadd CC (jd ddX11_tellsPart 17 rfl) ?_
  refine jr_st [.int (nI ((49 * a) + j)), .ref (mb 12)] (jst1 (nI_add (49 * a) j)) ?_
  refine jr_ialdN CC (jd ddX11_tellsPart 18 rfl) 5 ((49 * a) + j) rfl rfl (by omega) (by decide) ?_
  refine jr_istore [(4, .int (TC ((49 * a) + j))), (0, .ref m0), (1, .int (nI i)), (2, .int (nI r)), (3, .int (nI j))] CC (jd ddX11_tellsPart 19 rfl) (by decide) rfl ?_
  refine jr_aload_n CC (jd ddX11_tellsPart 20 rfl) 1 rfl ?_
  refine jr_get (v := .ref (mb 8)) CC (jd ddX11_tellsPart 21 rfl) (jf_X11_49 CC) 0 rfl rfl ?_
  refine jr_pc (pc' := 37) rfl ?_
  refine jr_iload_n CC (jd ddX11_tellsPart 22 rfl) 2 rfl ?_
  refine jr_ialdN CC (jd ddX11_tellsPart 23 rfl) 2 i rfl rfl (by omega) (by decide) ?_
  refine jr_st [.int 12] (jst1 hpt) ?_
  refine jr_bipush (v := 20) CC (jd ddX11_tellsPart 24 rfl) (by decide) ?_
  refine jr_icmp_ge 48 CC (jd ddX11_tellsPart 25 rfl) (by decide) (fun h => absurd h (by decide)) (fun _ => ?_)
  refine jr_iconst (v := 0) CC (jd ddX11_tellsPart 26 rfl) (by decide) ?_
  refine jr_goto 64 CC (jd ddX11_tellsPart 27 rfl) (by decide) ?_
  refine jr_istore [(5, .int 0), (4, .int (TC ((49 * a) + j))), (0, .ref m0), (1, .int (nI i)), (2, .int (nI r)), (3, .int (nI j))] CC (jd ddX11_tellsPart 39 rfl) (by decide) rfl ?_
  refine jr_aload_n CC (jd ddX11_tellsPart 40 rfl) 2 rfl ?_
  refine jr_get (v := .ref (mb 8)) CC (jd ddX11_tellsPart 41 rfl) (jf_X11_49 CC) 0 rfl rfl ?_
  refine jr_iload_n CC (jd ddX11_tellsPart 42 rfl) 3 rfl ?_
  refine jr_ialdN CC (jd ddX11_tellsPart 43 rfl) 2 i rfl rfl (by omega) (by decide) ?_
  refine jr_st [.int 12] (jst1 hpt) ?_
  refine jr_tabIn 233 CC (jd ddX11_tellsPart 44 rfl) (by decide) (by decide) rfl (by decide) ?_
  refine jr_iload_n CC (jd ddX11_tellsPart 76 rfl) 5 rfl ?_
  refine jr_if_ne 241 CC (jd ddX11_tellsPart 77 rfl) (by decide) (fun c3 => ?_) (fun c3 => ?_)
  · have n3 := jeq_not (a := j) (b := 0) c3 (by omega) (by omega)
    refine jr_aload_n CC (jd ddX11_tellsPart 80 rfl) 2 rfl ?_
    refine jr_iload CC (jd ddX11_tellsPart 81 rfl) 1 rfl ?_
    refine jr_pc (pc' := 244) rfl ?_
    refine jr_aload_n CC (jd ddX11_tellsPart 82 rfl) 2 rfl ?_
    refine jr_get (v := .ref (mb 12)) CC (jd ddX11_tellsPart 83 rfl) (jf_X11_61 CC) 0 rfl rfl ?_
    refine jr_bipush (v := 49) CC (jd ddX11_tellsPart 84 rfl) (by decide) ?_
    refine jr_aload_n CC (jd ddX11_tellsPart 85 rfl) 2 rfl ?_
    refine jr_get (v := .ref (mb 9)) CC (jd ddX11_tellsPart 86 rfl) (jf_X11_52 CC) 0 rfl rfl ?_
    refine jr_iload_n CC (jd ddX11_tellsPart 87 rfl) 3 rfl ?_
    refine jr_ialdN CC (jd ddX11_tellsPart 88 rfl) 3 i rfl rfl (by omega) (by decide) ?_
    refine jr_st [.int (nI a), .int 49, .ref (mb 12), .int (TC ((49 * a) + j)), .ref m0] (jst1 hON) ?_
    refine jr_imul CC (jd ddX11_tellsPart 89 rfl) ?_
    refine jr_st [.int (nI (49 * a)), .ref (mb 12), .int (TC ((49 * a) + j)), .ref m0] (jst1 (pk_mul 49 a)) ?_
    refine jr_iload_n CC (jd ddX11_tellsPart 90 rfl) 5 rfl ?_
    refine jr_iadd CC (jd ddX11_tellsPart 91 rfl) ?_
    refine jr_st [.int (nI ((49 * a) + j)), .ref (mb 12), .int (TC ((49 * a) + j)), .ref m0] (jst1 (nI_add (49 * a) j)) ?_
    refine jr_pc (pc' := 259) rfl ?_
    refine jr_iconst (v := 1) CC (jd ddX11_tellsPart 92 rfl) (by decide) ?_
    refine jr_isub CC (jd ddX11_tellsPart 93 rfl) ?_
    refine jr_st [.int (nI (((49 * a) + j) - 1)), .ref (mb 12), .int (TC ((49 * a) + j)), .ref m0] (jst1 (pk_sub (a := ((49 * a) + j)) (b := 1) (by omega))) ?_
    refine jr_ialdN CC (jd ddX11_tellsPart 94 rfl) 5 (((49 * a) + j) - 1) rfl rfl (by omega) (by decide) ?_
    refine jr_isub CC (jd ddX11_tellsPart 95 rfl) ?_
    refine jr_i2l CC (jd ddX11_tellsPart 96 rfl) ?_
    refine jr_callV (q0 := 0) (rest := []) [.long (Int32.toInt64 ((TC ((49 * a) + j)) - (TC (((49 * a) + j) - 1))))] CC (jd ddX11_tellsPart 97 rfl) (jy_X11_220 CC) (k_X11_bound l t hfl m0 (Int32.toInt64 ((TC ((49 * a) + j)) - (TC (((49 * a) + j) - 1))))) [] rfl (by decide) rfl rfl rfl rfl (by decide) (Nat.le_of_ble_eq_true rfl) (by rintro v u h; rcases h with ⟨rfl, rfl⟩ <;> rfl) (fun _ _ h => h.elim) (fun _ _ h => h.elim) (fun v u h => ?_)
    rcases h with ⟨rfl, rfl⟩
    refine jr_norm [(m0, .inr (10, jmdl R mb)), ((mb 2), .inl (t 0, 784, .inl CU)), ((mb 8), .inl (t 0, 16, .inl PT)), ((mb 9), .inl (t 0, 16, .inl ON)), ((mb 10), .inl (t 0, 16, .inl TW)), ((mb 12), .inl (t 0, 784, .inl TC))] [.int (mBnd (Int32.toInt64 ((TC ((49 * a) + j)) - (TC (((49 * a) + j) - 1)))))] 267 0 0 rfl rfl rfl rfl rfl ?_
    exact jr_iret CC MM (jd ddX11_tellsPart 98 rfl) rfl (by decide) (by decide) ⟨by simp [tPart, hpt, hON, nI_tn (show a < 2147483648 by omega), c3, n3], rfl⟩
  · have n3 := jeq_of (a := j) (b := 0) c3 (by omega) (by omega)
    refine jr_iconst (v := 0) CC (jd ddX11_tellsPart 78 rfl) (by decide) ?_
    refine jr_goto 267 CC (jd ddX11_tellsPart 79 rfl) (by decide) ?_
    exact jr_iret CC MM (jd ddX11_tellsPart 98 rfl) rfl (by decide) (by decide) ⟨by simp [tPart, hpt, hON, nI_tn (show a < 2147483648 by omega), c3, n3], rfl⟩
set_option maxHeartbeats 8000000 in
set_option maxRecDepth 100000 in
theorem k_X11_tellsPart_13 (l : Launch) (t : Nat → ClassId) (hfl : l.stackTraces = false) (m0 : Nat) (mb : Nat → Nat) (R : Nat → Int32) (CU : Nat → Int32) (PT : Nat → Int32) (ON : Nat → Int32) (TW : Nat → Int32) (TC : Nat → Int32) (r : Nat) (i : Nat) (j : Nat) (a : Nat) (hr : r < 8) (hi : i < 16) (hj : j < 49) (hpt : PT i = 13) (hON : ON i = nI a) (ha : a < 16) : jKx l t yX11_tellsPart (Cond.code yX11_tellsPart cX11_tellsPart 6 (some .int) :: jWS) { frames := 1, cells := 0, slots := 0, locals := 23 } [.ref m0, .int (nI i), .int (nI r), .int (nI j)] [(m0, .inr (10, jmdl R mb)), ((mb 2), .inl (t 0, 784, .inl CU)), ((mb 8), .inl (t 0, 16, .inl PT)), ((mb 9), .inl (t 0, 16, .inl ON)), ((mb 10), .inl (t 0, 16, .inl TW)), ((mb 12), .inl (t 0, 784, .inl TC))] (fun vv uu => (vv = some (.int (tPart CU PT ON TW TC r i j)) ∧ uu = [(m0, .inr (10, jmdl R mb)), ((mb 2), .inl (t 0, 784, .inl CU)), ((mb 8), .inl (t 0, 16, .inl PT)), ((mb 9), .inl (t 0, 16, .inl ON)), ((mb 10), .inl (t 0, 16, .inl TW)), ((mb 12), .inl (t 0, 784, .inl TC))])) (fun _ _ => False) := by
  refine jK_of hfl (by decide +kernel) (Nat.le_of_ble_eq_true rfl) ?_
  intro p e s m args below meth c D A Q CC MM
  refine jr_norm0 [(0, .ref m0), (1, .int (nI i)), (2, .int (nI r)), (3, .int (nI j))] rfl ?_
  refine jr_aload_n CC (jd ddX11_tellsPart 0 rfl) 0 rfl ?_
  refine jr_get (v := .ref (mb 8)) CC (jd ddX11_tellsPart 1 rfl) (jf_X11_49 CC) 0 rfl rfl ?_
  refine jr_iload_n CC (jd ddX11_tellsPart 2 rfl) 1 rfl ?_
  refine jr_ialdN CC (jd ddX11_tellsPart 3 rfl) 2 i rfl rfl (by omega) (by decide) ?_
  refine jr_st [.int 13] (jst1 hpt) ?_
  refine jr_bipush (v := 10) CC (jd ddX11_tellsPart 4 rfl) (by decide) ?_
  refine jr_icmp_ge 15 CC (jd ddX11_tellsPart 5 rfl) (by decide) (fun _ => ?_) (fun h => absurd h (by decide))
  refine jr_aload_n CC (jd ddX11_tellsPart 8 rfl) 0 rfl ?_
  refine jr_get (v := .ref (mb 12)) CC (jd ddX11_tellsPart 9 rfl) (jf_X11_61 CC) 0 rfl rfl ?_
  refine jr_bipush (v := 49) CC (jd ddX11_tellsPart 10 rfl) (by decide) ?_
  refine jr_aload_n CC (jd ddX11_tellsPart 11 rfl) 0 rfl ?_
  refine jr_pc (pc' := 22) rfl ?_
  refine jr_get (v := .ref (mb 9)) CC (jd ddX11_tellsPart 12 rfl) (jf_X11_52 CC) 0 rfl rfl ?_
  refine jr_iload_n CC (jd ddX11_tellsPart 13 rfl) 1 rfl ?_
  refine jr_ialdN CC (jd ddX11_tellsPart 14 rfl) 3 i rfl rfl (by omega) (by decide) ?_
  refine jr_st [.int (nI a), .int 49, .ref (mb 12)] (jst1 hON) ?_
  refine jr_imul CC (jd ddX11_tellsPart 15 rfl) ?_
  refine jr_st [.int (nI (49 * a)), .ref (mb 12)] (jst1 (pk_mul 49 a)) ?_
  refine jr_iload_n CC (jd ddX11_tellsPart 16 rfl) 3 rfl ?_
  refine jr_iadd CC (jd ddX11_tellsPart 17 rfl) ?_
  refine jr_st [.int (nI ((49 * a) + j)), .ref (mb 12)] (jst1 (nI_add (49 * a) j)) ?_
  refine jr_ialdN CC (jd ddX11_tellsPart 18 rfl) 5 ((49 * a) + j) rfl rfl (by omega) (by decide) ?_
  refine jr_istore [(4, .int (TC ((49 * a) + j))), (0, .ref m0), (1, .int (nI i)), (2, .int (nI r)), (3, .int (nI j))] CC (jd ddX11_tellsPart 19 rfl) (by decide) rfl ?_
  refine jr_aload_n CC (jd ddX11_tellsPart 20 rfl) 1 rfl ?_
  refine jr_get (v := .ref (mb 8)) CC (jd ddX11_tellsPart 21 rfl) (jf_X11_49 CC) 0 rfl rfl ?_
  refine jr_pc (pc' := 37) rfl ?_
  refine jr_iload_n CC (jd ddX11_tellsPart 22 rfl) 2 rfl ?_
  refine jr_ialdN CC (jd ddX11_tellsPart 23 rfl) 2 i rfl rfl (by omega) (by decide) ?_
  refine jr_st [.int 13] (jst1 hpt) ?_
  refine jr_bipush (v := 20) CC (jd ddX11_tellsPart 24 rfl) (by decide) ?_
  refine jr_icmp_ge 48 CC (jd ddX11_tellsPart 25 rfl) (by decide) (fun h => absurd h (by decide)) (fun _ => ?_)
  refine jr_iconst (v := 0) CC (jd ddX11_tellsPart 26 rfl) (by decide) ?_
  refine jr_goto 64 CC (jd ddX11_tellsPart 27 rfl) (by decide) ?_
  refine jr_istore [(5, .int 0), (4, .int (TC ((49 * a) + j))), (0, .ref m0), (1, .int (nI i)), (2, .int (nI r)), (3, .int (nI j))] CC (jd ddX11_tellsPart 39 rfl) (by decide) rfl ?_
  refine jr_aload_n CC (jd ddX11_tellsPart 40 rfl) 2 rfl ?_
  refine jr_get (v := .ref (mb 8)) CC (jd ddX11_tellsPart 41 rfl) (jf_X11_49 CC) 0 rfl rfl ?_
  refine jr_iload_n CC (jd ddX11_tellsPart 42 rfl) 3 rfl ?_
  refine jr_ialdN CC (jd ddX11_tellsPart 43 rfl) 2 i rfl rfl (by omega) (by decide) ?_
  refine jr_st [.int 13] (jst1 hpt) ?_
  refine jr_tabIn 268 CC (jd ddX11_tellsPart 44 rfl) (by decide) (by decide) rfl (by decide) ?_
  refine jr_aload_n CC (jd ddX11_tellsPart 99 rfl) 2 rfl ?_
  refine jr_iload_n CC (jd ddX11_tellsPart 100 rfl) 5 rfl ?_
  refine jr_if_ne 279 CC (jd ddX11_tellsPart 101 rfl) (by decide) (fun c3 => ?_) (fun c3 => ?_)
  · have n3 := jeq_not (a := j) (b := 0) c3 (by omega) (by omega)
    refine jr_iload CC (jd ddX11_tellsPart 105 rfl) 1 rfl ?_
    refine jr_pc (pc' := 281) rfl ?_
    refine jr_aload_n CC (jd ddX11_tellsPart 106 rfl) 2 rfl ?_
    refine jr_get (v := .ref (mb 12)) CC (jd ddX11_tellsPart 107 rfl) (jf_X11_61 CC) 0 rfl rfl ?_
    refine jr_bipush (v := 49) CC (jd ddX11_tellsPart 108 rfl) (by decide) ?_
    refine jr_iload_n CC (jd ddX11_tellsPart 109 rfl) 3 rfl ?_
    refine jr_imul CC (jd ddX11_tellsPart 110 rfl) ?_
    refine jr_st [.int (nI (49 * i)), .ref (mb 12), .int (TC ((49 * a) + j)), .ref m0] (jst1 (pk_mul 49 i)) ?_
    refine jr_iload_n CC (jd ddX11_tellsPart 111 rfl) 5 rfl ?_
    refine jr_iadd CC (jd ddX11_tellsPart 112 rfl) ?_
    refine jr_st [.int (nI ((49 * i) + j)), .ref (mb 12), .int (TC ((49 * a) + j)), .ref m0] (jst1 (nI_add (49 * i) j)) ?_
    refine jr_iconst (v := 1) CC (jd ddX11_tellsPart 113 rfl) (by decide) ?_
    refine jr_isub CC (jd ddX11_tellsPart 114 rfl) ?_
    refine jr_st [.int (nI (((49 * i) + j) - 1)), .ref (mb 12), .int (TC ((49 * a) + j)), .ref m0] (jst1 (pk_sub (a := ((49 * i) + j)) (b := 1) (by omega))) ?_
    refine jr_ialdN CC (jd ddX11_tellsPart 115 rfl) 5 (((49 * i) + j) - 1) rfl rfl (by omega) (by decide) ?_
    refine jr_pc (pc' := 294) rfl ?_
    refine jr_iadd CC (jd ddX11_tellsPart 116 rfl) ?_
    refine jr_i2l CC (jd ddX11_tellsPart 117 rfl) ?_
    refine jr_callV (q0 := 0) (rest := []) [.long (Int32.toInt64 ((TC ((49 * a) + j)) + (TC (((49 * i) + j) - 1))))] CC (jd ddX11_tellsPart 118 rfl) (jy_X11_220 CC) (k_X11_bound l t hfl m0 (Int32.toInt64 ((TC ((49 * a) + j)) + (TC (((49 * i) + j) - 1))))) [] rfl (by decide) rfl rfl rfl rfl (by decide) (Nat.le_of_ble_eq_true rfl) (by rintro v u h; rcases h with ⟨rfl, rfl⟩ <;> rfl) (fun _ _ h => h.elim) (fun _ _ h => h.elim) (fun v u h => ?_)
    rcases h with ⟨rfl, rfl⟩
    refine jr_norm [(m0, .inr (10, jmdl R mb)), ((mb 2), .inl (t 0, 784, .inl CU)), ((mb 8), .inl (t 0, 16, .inl PT)), ((mb 9), .inl (t 0, 16, .inl ON)), ((mb 10), .inl (t 0, 16, .inl TW)), ((mb 12), .inl (t 0, 784, .inl TC))] [.int (mBnd (Int32.toInt64 ((TC ((49 * a) + j)) + (TC (((49 * i) + j) - 1)))))] 299 0 0 rfl rfl rfl rfl rfl ?_
    exact jr_iret CC MM (jd ddX11_tellsPart 119 rfl) rfl (by decide) (by decide) ⟨by simp [tPart, hpt, hON, nI_tn (show a < 2147483648 by omega), c3, n3], rfl⟩
  · have n3 := jeq_of (a := j) (b := 0) c3 (by omega) (by omega)
    refine jr_iload CC (jd ddX11_tellsPart 102 rfl) 1 rfl ?_
    refine jr_pc (pc' := 275) rfl ?_
    refine jr_i2l CC (jd ddX11_tellsPart 103 rfl) ?_
    refine jr_goto 296 CC (jd ddX11_tellsPart 104 rfl) (by decide) ?_
    refine jr_callV (q0 := 0) (rest := []) [.long (Int32.toInt64 (TC ((49 * a) + j)))] CC (jd ddX11_tellsPart 118 rfl) (jy_X11_220 CC) (k_X11_bound l t hfl m0 (Int32.toInt64 (TC ((49 * a) + j)))) [] rfl (by decide) rfl rfl rfl rfl (by decide) (Nat.le_of_ble_eq_true rfl) (by rintro v u h; rcases h with ⟨rfl, rfl⟩ <;> rfl) (fun _ _ h => h.elim) (fun _ _ h => h.elim) (fun v u h => ?_)
    rcases h with ⟨rfl, rfl⟩
    refine jr_norm [(m0, .inr (10, jmdl R mb)), ((mb 2), .inl (t 0, 784, .inl CU)), ((mb 8), .inl (t 0, 16, .inl PT)), ((mb 9), .inl (t 0, 16, .inl ON)), ((mb 10), .inl (t 0, 16, .inl TW)), ((mb 12), .inl (t 0, 784, .inl TC))] [.int (mBnd (Int32.toInt64 (TC ((49 * a) + j))))] 299 0 0 rfl rfl rfl rfl rfl ?_
    exact jr_iret CC MM (jd ddX11_tellsPart 119 rfl) rfl (by decide) (by decide) ⟨by simp [tPart, hpt, hON, nI_tn (show a < 2147483648 by omega), c3, n3], rfl⟩
set_option maxHeartbeats 8000000 in
set_option maxRecDepth 100000 in
theorem k_X11_tellsPart_20 (l : Launch) (t : Nat → ClassId) (hfl : l.stackTraces = false) (m0 : Nat) (mb : Nat → Nat) (R : Nat → Int32) (CU : Nat → Int32) (PT : Nat → Int32) (ON : Nat → Int32) (TW : Nat → Int32) (TC : Nat → Int32) (r : Nat) (i : Nat) (j : Nat) (a : Nat) (b : Nat) (hr : r < 8) (hi : i < 16) (hj : j < 49) (hpt : PT i = 20) (hON : ON i = nI a) (ha : a < 16) (hTW : TW i = nI b) (hb : b < 16) : jKx l t yX11_tellsPart (Cond.code yX11_tellsPart cX11_tellsPart 6 (some .int) :: jWS) { frames := 1, cells := 0, slots := 0, locals := 23 } [.ref m0, .int (nI i), .int (nI r), .int (nI j)] [(m0, .inr (10, jmdl R mb)), ((mb 2), .inl (t 0, 784, .inl CU)), ((mb 8), .inl (t 0, 16, .inl PT)), ((mb 9), .inl (t 0, 16, .inl ON)), ((mb 10), .inl (t 0, 16, .inl TW)), ((mb 12), .inl (t 0, 784, .inl TC))] (fun vv uu => (vv = some (.int (tPart CU PT ON TW TC r i j)) ∧ uu = [(m0, .inr (10, jmdl R mb)), ((mb 2), .inl (t 0, 784, .inl CU)), ((mb 8), .inl (t 0, 16, .inl PT)), ((mb 9), .inl (t 0, 16, .inl ON)), ((mb 10), .inl (t 0, 16, .inl TW)), ((mb 12), .inl (t 0, 784, .inl TC))])) (fun _ _ => False) := by
  refine jK_of hfl (by decide +kernel) (Nat.le_of_ble_eq_true rfl) ?_
  intro p e s m args below meth c D A Q CC MM
  refine jr_norm0 [(0, .ref m0), (1, .int (nI i)), (2, .int (nI r)), (3, .int (nI j))] rfl ?_
  refine jr_aload_n CC (jd ddX11_tellsPart 0 rfl) 0 rfl ?_
  refine jr_get (v := .ref (mb 8)) CC (jd ddX11_tellsPart 1 rfl) (jf_X11_49 CC) 0 rfl rfl ?_
  refine jr_iload_n CC (jd ddX11_tellsPart 2 rfl) 1 rfl ?_
  refine jr_ialdN CC (jd ddX11_tellsPart 3 rfl) 2 i rfl rfl (by omega) (by decide) ?_
  refine jr_st [.int 20] (jst1 hpt) ?_
  refine jr_bipush (v := 10) CC (jd ddX11_tellsPart 4 rfl) (by decide) ?_
  refine jr_icmp_ge 15 CC (jd ddX11_tellsPart 5 rfl) (by decide) (fun _ => ?_) (fun h => absurd h (by decide))
  refine jr_aload_n CC (jd ddX11_tellsPart 8 rfl) 0 rfl ?_
  refine jr_get (v := .ref (mb 12)) CC (jd ddX11_tellsPart 9 rfl) (jf_X11_61 CC) 0 rfl rfl ?_
  refine jr_bipush (v := 49) CC (jd ddX11_tellsPart 10 rfl) (by decide) ?_
  refine jr_aload_n CC (jd ddX11_tellsPart 11 rfl) 0 rfl ?_
  refine jr_pc (pc' := 22) rfl ?_
  refine jr_get (v := .ref (mb 9)) CC (jd ddX11_tellsPart 12 rfl) (jf_X11_52 CC) 0 rfl rfl ?_
  refine jr_iload_n CC (jd ddX11_tellsPart 13 rfl) 1 rfl ?_
  refine jr_ialdN CC (jd ddX11_tellsPart 14 rfl) 3 i rfl rfl (by omega) (by decide) ?_
  refine jr_st [.int (nI a), .int 49, .ref (mb 12)] (jst1 hON) ?_
  refine jr_imul CC (jd ddX11_tellsPart 15 rfl) ?_
  refine jr_st [.int (nI (49 * a)), .ref (mb 12)] (jst1 (pk_mul 49 a)) ?_
  refine jr_iload_n CC (jd ddX11_tellsPart 16 rfl) 3 rfl ?_
  refine jr_iadd CC (jd ddX11_tellsPart 17 rfl) ?_
  refine jr_st [.int (nI ((49 * a) + j)), .ref (mb 12)] (jst1 (nI_add (49 * a) j)) ?_
  refine jr_ialdN CC (jd ddX11_tellsPart 18 rfl) 5 ((49 * a) + j) rfl rfl (by omega) (by decide) ?_
  refine jr_istore [(4, .int (TC ((49 * a) + j))), (0, .ref m0), (1, .int (nI i)), (2, .int (nI r)), (3, .int (nI j))] CC (jd ddX11_tellsPart 19 rfl) (by decide) rfl ?_
  refine jr_aload_n CC (jd ddX11_tellsPart 20 rfl) 1 rfl ?_
  refine jr_get (v := .ref (mb 8)) CC (jd ddX11_tellsPart 21 rfl) (jf_X11_49 CC) 0 rfl rfl ?_
  refine jr_pc (pc' := 37) rfl ?_
  refine jr_iload_n CC (jd ddX11_tellsPart 22 rfl) 2 rfl ?_
  refine jr_ialdN CC (jd ddX11_tellsPart 23 rfl) 2 i rfl rfl (by omega) (by decide) ?_
  refine jr_st [.int 20] (jst1 hpt) ?_
  refine jr_bipush (v := 20) CC (jd ddX11_tellsPart 24 rfl) (by decide) ?_
  refine jr_icmp_ge 48 CC (jd ddX11_tellsPart 25 rfl) (by decide) (fun _ => ?_) (fun h => absurd h (by decide))
  refine jr_aload_n CC (jd ddX11_tellsPart 28 rfl) 1 rfl ?_
  refine jr_get (v := .ref (mb 12)) CC (jd ddX11_tellsPart 29 rfl) (jf_X11_61 CC) 0 rfl rfl ?_
  refine jr_bipush (v := 49) CC (jd ddX11_tellsPart 30 rfl) (by decide) ?_
  refine jr_aload_n CC (jd ddX11_tellsPart 31 rfl) 1 rfl ?_
  refine jr_get (v := .ref (mb 10)) CC (jd ddX11_tellsPart 32 rfl) (jf_X11_55 CC) 0 rfl rfl ?_
  refine jr_iload_n CC (jd ddX11_tellsPart 33 rfl) 2 rfl ?_
  refine jr_pc (pc' := 59) rfl ?_
  refine jr_ialdN CC (jd ddX11_tellsPart 34 rfl) 4 i rfl rfl (by omega) (by decide) ?_
  refine jr_st [.int (nI b), .int 49, .ref (mb 12)] (jst1 hTW) ?_
  refine jr_imul CC (jd ddX11_tellsPart 35 rfl) ?_
  refine jr_st [.int (nI (49 * b)), .ref (mb 12)] (jst1 (pk_mul 49 b)) ?_
  refine jr_iload_n CC (jd ddX11_tellsPart 36 rfl) 4 rfl ?_
  refine jr_iadd CC (jd ddX11_tellsPart 37 rfl) ?_
  refine jr_st [.int (nI ((49 * b) + j)), .ref (mb 12)] (jst1 (nI_add (49 * b) j)) ?_
  refine jr_ialdN CC (jd ddX11_tellsPart 38 rfl) 5 ((49 * b) + j) rfl rfl (by omega) (by decide) ?_
  refine jr_istore [(5, .int (TC ((49 * b) + j))), (4, .int (TC ((49 * a) + j))), (0, .ref m0), (1, .int (nI i)), (2, .int (nI r)), (3, .int (nI j))] CC (jd ddX11_tellsPart 39 rfl) (by decide) rfl ?_
  refine jr_aload_n CC (jd ddX11_tellsPart 40 rfl) 2 rfl ?_
  refine jr_get (v := .ref (mb 8)) CC (jd ddX11_tellsPart 41 rfl) (jf_X11_49 CC) 0 rfl rfl ?_
  refine jr_iload_n CC (jd ddX11_tellsPart 42 rfl) 3 rfl ?_
  refine jr_ialdN CC (jd ddX11_tellsPart 43 rfl) 2 i rfl rfl (by omega) (by decide) ?_
  refine jr_st [.int 20] (jst1 hpt) ?_
  refine jr_pc (pc' := 72) rfl ?_
  refine jr_tabIn 300 CC (jd ddX11_tellsPart 44 rfl) (by decide) (by decide) rfl (by decide) ?_
  refine jr_aload_n CC (jd ddX11_tellsPart 120 rfl) 2 rfl ?_
  refine jr_iload CC (jd ddX11_tellsPart 121 rfl) 1 rfl ?_
  refine jr_iload CC (jd ddX11_tellsPart 122 rfl) 0 rfl ?_
  refine jr_iadd CC (jd ddX11_tellsPart 123 rfl) ?_
  refine jr_i2l CC (jd ddX11_tellsPart 124 rfl) ?_
  refine jr_callV (q0 := 0) (rest := []) [.long (Int32.toInt64 ((TC ((49 * a) + j)) + (TC ((49 * b) + j))))] CC (jd ddX11_tellsPart 125 rfl) (jy_X11_220 CC) (k_X11_bound l t hfl m0 (Int32.toInt64 ((TC ((49 * a) + j)) + (TC ((49 * b) + j))))) [] rfl (by decide) rfl rfl rfl rfl (by decide) (Nat.le_of_ble_eq_true rfl) (by rintro v u h; rcases h with ⟨rfl, rfl⟩ <;> rfl) (fun _ _ h => h.elim) (fun _ _ h => h.elim) (fun v u h => ?_)
  rcases h with ⟨rfl, rfl⟩
  refine jr_norm [(m0, .inr (10, jmdl R mb)), ((mb 2), .inl (t 0, 784, .inl CU)), ((mb 8), .inl (t 0, 16, .inl PT)), ((mb 9), .inl (t 0, 16, .inl ON)), ((mb 10), .inl (t 0, 16, .inl TW)), ((mb 12), .inl (t 0, 784, .inl TC))] [.int (mBnd (Int32.toInt64 ((TC ((49 * a) + j)) + (TC ((49 * b) + j)))))] 310 0 0 rfl rfl rfl rfl rfl ?_
  exact jr_iret CC MM (jd ddX11_tellsPart 126 rfl) rfl (by decide) (by decide) ⟨by simp [tPart, hpt, hON, nI_tn (show a < 2147483648 by omega), hTW, nI_tn (show b < 2147483648 by omega)], rfl⟩
set_option maxHeartbeats 8000000 in
set_option maxRecDepth 100000 in
theorem k_X11_tellsPart_21 (l : Launch) (t : Nat → ClassId) (hfl : l.stackTraces = false) (m0 : Nat) (mb : Nat → Nat) (R : Nat → Int32) (CU : Nat → Int32) (PT : Nat → Int32) (ON : Nat → Int32) (TW : Nat → Int32) (TC : Nat → Int32) (r : Nat) (i : Nat) (j : Nat) (a : Nat) (b : Nat) (hr : r < 8) (hi : i < 16) (hj : j < 49) (hpt : PT i = 21) (hON : ON i = nI a) (ha : a < 16) (hTW : TW i = nI b) (hb : b < 16) : jKx l t yX11_tellsPart (Cond.code yX11_tellsPart cX11_tellsPart 6 (some .int) :: jWS) { frames := 1, cells := 0, slots := 0, locals := 23 } [.ref m0, .int (nI i), .int (nI r), .int (nI j)] [(m0, .inr (10, jmdl R mb)), ((mb 2), .inl (t 0, 784, .inl CU)), ((mb 8), .inl (t 0, 16, .inl PT)), ((mb 9), .inl (t 0, 16, .inl ON)), ((mb 10), .inl (t 0, 16, .inl TW)), ((mb 12), .inl (t 0, 784, .inl TC))] (fun vv uu => (vv = some (.int (tPart CU PT ON TW TC r i j)) ∧ uu = [(m0, .inr (10, jmdl R mb)), ((mb 2), .inl (t 0, 784, .inl CU)), ((mb 8), .inl (t 0, 16, .inl PT)), ((mb 9), .inl (t 0, 16, .inl ON)), ((mb 10), .inl (t 0, 16, .inl TW)), ((mb 12), .inl (t 0, 784, .inl TC))])) (fun _ _ => False) := by
  refine jK_of hfl (by decide +kernel) (Nat.le_of_ble_eq_true rfl) ?_
  intro p e s m args below meth c D A Q CC MM
  refine jr_norm0 [(0, .ref m0), (1, .int (nI i)), (2, .int (nI r)), (3, .int (nI j))] rfl ?_
  refine jr_aload_n CC (jd ddX11_tellsPart 0 rfl) 0 rfl ?_
  refine jr_get (v := .ref (mb 8)) CC (jd ddX11_tellsPart 1 rfl) (jf_X11_49 CC) 0 rfl rfl ?_
  refine jr_iload_n CC (jd ddX11_tellsPart 2 rfl) 1 rfl ?_
  refine jr_ialdN CC (jd ddX11_tellsPart 3 rfl) 2 i rfl rfl (by omega) (by decide) ?_
  refine jr_st [.int 21] (jst1 hpt) ?_
  refine jr_bipush (v := 10) CC (jd ddX11_tellsPart 4 rfl) (by decide) ?_
  refine jr_icmp_ge 15 CC (jd ddX11_tellsPart 5 rfl) (by decide) (fun _ => ?_) (fun h => absurd h (by decide))
  refine jr_aload_n CC (jd ddX11_tellsPart 8 rfl) 0 rfl ?_
  refine jr_get (v := .ref (mb 12)) CC (jd ddX11_tellsPart 9 rfl) (jf_X11_61 CC) 0 rfl rfl ?_
  refine jr_bipush (v := 49) CC (jd ddX11_tellsPart 10 rfl) (by decide) ?_
  refine jr_aload_n CC (jd ddX11_tellsPart 11 rfl) 0 rfl ?_
  refine jr_pc (pc' := 22) rfl ?_
  refine jr_get (v := .ref (mb 9)) CC (jd ddX11_tellsPart 12 rfl) (jf_X11_52 CC) 0 rfl rfl ?_
  refine jr_iload_n CC (jd ddX11_tellsPart 13 rfl) 1 rfl ?_
  refine jr_ialdN CC (jd ddX11_tellsPart 14 rfl) 3 i rfl rfl (by omega) (by decide) ?_
  refine jr_st [.int (nI a), .int 49, .ref (mb 12)] (jst1 hON) ?_
  refine jr_imul CC (jd ddX11_tellsPart 15 rfl) ?_
  refine jr_st [.int (nI (49 * a)), .ref (mb 12)] (jst1 (pk_mul 49 a)) ?_
  refine jr_iload_n CC (jd ddX11_tellsPart 16 rfl) 3 rfl ?_
  refine jr_iadd CC (jd ddX11_tellsPart 17 rfl) ?_
  refine jr_st [.int (nI ((49 * a) + j)), .ref (mb 12)] (jst1 (nI_add (49 * a) j)) ?_
  refine jr_ialdN CC (jd ddX11_tellsPart 18 rfl) 5 ((49 * a) + j) rfl rfl (by omega) (by decide) ?_
  refine jr_istore [(4, .int (TC ((49 * a) + j))), (0, .ref m0), (1, .int (nI i)), (2, .int (nI r)), (3, .int (nI j))] CC (jd ddX11_tellsPart 19 rfl) (by decide) rfl ?_
  refine jr_aload_n CC (jd ddX11_tellsPart 20 rfl) 1 rfl ?_
  refine jr_get (v := .ref (mb 8)) CC (jd ddX11_tellsPart 21 rfl) (jf_X11_49 CC) 0 rfl rfl ?_
  refine jr_pc (pc' := 37) rfl ?_
  refine jr_iload_n CC (jd ddX11_tellsPart 22 rfl) 2 rfl ?_
  refine jr_ialdN CC (jd ddX11_tellsPart 23 rfl) 2 i rfl rfl (by omega) (by decide) ?_
  refine jr_st [.int 21] (jst1 hpt) ?_
  refine jr_bipush (v := 20) CC (jd ddX11_tellsPart 24 rfl) (by decide) ?_
  refine jr_icmp_ge 48 CC (jd ddX11_tellsPart 25 rfl) (by decide) (fun _ => ?_) (fun h => absurd h (by decide))
  refine jr_aload_n CC (jd ddX11_tellsPart 28 rfl) 1 rfl ?_
  refine jr_get (v := .ref (mb 12)) CC (jd ddX11_tellsPart 29 rfl) (jf_X11_61 CC) 0 rfl rfl ?_
  refine jr_bipush (v := 49) CC (jd ddX11_tellsPart 30 rfl) (by decide) ?_
  refine jr_aload_n CC (jd ddX11_tellsPart 31 rfl) 1 rfl ?_
  refine jr_get (v := .ref (mb 10)) CC (jd ddX11_tellsPart 32 rfl) (jf_X11_55 CC) 0 rfl rfl ?_
  refine jr_iload_n CC (jd ddX11_tellsPart 33 rfl) 2 rfl ?_
  refine jr_pc (pc' := 59) rfl ?_
  refine jr_ialdN CC (jd ddX11_tellsPart 34 rfl) 4 i rfl rfl (by omega) (by decide) ?_
  refine jr_st [.int (nI b), .int 49, .ref (mb 12)] (jst1 hTW) ?_
  refine jr_imul CC (jd ddX11_tellsPart 35 rfl) ?_
  refine jr_st [.int (nI (49 * b)), .ref (mb 12)] (jst1 (pk_mul 49 b)) ?_
  refine jr_iload_n CC (jd ddX11_tellsPart 36 rfl) 4 rfl ?_
  refine jr_iadd CC (jd ddX11_tellsPart 37 rfl) ?_
  refine jr_st [.int (nI ((49 * b) + j)), .ref (mb 12)] (jst1 (nI_add (49 * b) j)) ?_
  refine jr_ialdN CC (jd ddX11_tellsPart 38 rfl) 5 ((49 * b) + j) rfl rfl (by omega) (by decide) ?_
  refine jr_istore [(5, .int (TC ((49 * b) + j))), (4, .int (TC ((49 * a) + j))), (0, .ref m0), (1, .int (nI i)), (2, .int (nI r)), (3, .int (nI j))] CC (jd ddX11_tellsPart 39 rfl) (by decide) rfl ?_
  refine jr_aload_n CC (jd ddX11_tellsPart 40 rfl) 2 rfl ?_
  refine jr_get (v := .ref (mb 8)) CC (jd ddX11_tellsPart 41 rfl) (jf_X11_49 CC) 0 rfl rfl ?_
  refine jr_iload_n CC (jd ddX11_tellsPart 42 rfl) 3 rfl ?_
  refine jr_ialdN CC (jd ddX11_tellsPart 43 rfl) 2 i rfl rfl (by omega) (by decide) ?_
  refine jr_st [.int 21] (jst1 hpt) ?_
  refine jr_pc (pc' := 72) rfl ?_
  refine jr_tabIn 311 CC (jd ddX11_tellsPart 44 rfl) (by decide) (by decide) rfl (by decide) ?_
  refine jr_aload_n CC (jd ddX11_tellsPart 127 rfl) 2 rfl ?_
  refine jr_iload CC (jd ddX11_tellsPart 128 rfl) 1 rfl ?_
  refine jr_iload CC (jd ddX11_tellsPart 129 rfl) 0 rfl ?_
  refine jr_isub CC (jd ddX11_tellsPart 130 rfl) ?_
  refine jr_i2l CC (jd ddX11_tellsPart 131 rfl) ?_
  refine jr_callV (q0 := 0) (rest := []) [.long (Int32.toInt64 ((TC ((49 * a) + j)) - (TC ((49 * b) + j))))] CC (jd ddX11_tellsPart 132 rfl) (jy_X11_220 CC) (k_X11_bound l t hfl m0 (Int32.toInt64 ((TC ((49 * a) + j)) - (TC ((49 * b) + j))))) [] rfl (by decide) rfl rfl rfl rfl (by decide) (Nat.le_of_ble_eq_true rfl) (by rintro v u h; rcases h with ⟨rfl, rfl⟩ <;> rfl) (fun _ _ h => h.elim) (fun _ _ h => h.elim) (fun v u h => ?_)
  rcases h with ⟨rfl, rfl⟩
  refine jr_norm [(m0, .inr (10, jmdl R mb)), ((mb 2), .inl (t 0, 784, .inl CU)), ((mb 8), .inl (t 0, 16, .inl PT)), ((mb 9), .inl (t 0, 16, .inl ON)), ((mb 10), .inl (t 0, 16, .inl TW)), ((mb 12), .inl (t 0, 784, .inl TC))] [.int (mBnd (Int32.toInt64 ((TC ((49 * a) + j)) - (TC ((49 * b) + j)))))] 321 0 0 rfl rfl rfl rfl rfl ?_
  exact jr_iret CC MM (jd ddX11_tellsPart 133 rfl) rfl (by decide) (by decide) ⟨by simp [tPart, hpt, hON, nI_tn (show a < 2147483648 by omega), hTW, nI_tn (show b < 2147483648 by omega)], rfl⟩
set_option maxHeartbeats 8000000 in
set_option maxRecDepth 100000 in
theorem k_X11_tellsPart_22 (l : Launch) (t : Nat → ClassId) (hfl : l.stackTraces = false) (m0 : Nat) (mb : Nat → Nat) (R : Nat → Int32) (CU : Nat → Int32) (PT : Nat → Int32) (ON : Nat → Int32) (TW : Nat → Int32) (TC : Nat → Int32) (r : Nat) (i : Nat) (j : Nat) (a : Nat) (b : Nat) (hr : r < 8) (hi : i < 16) (hj : j < 49) (hpt : PT i = 22) (hON : ON i = nI a) (ha : a < 16) (hTW : TW i = nI b) (hb : b < 16) : jKx l t yX11_tellsPart (Cond.code yX11_tellsPart cX11_tellsPart 6 (some .int) :: jWS) { frames := 1, cells := 0, slots := 0, locals := 23 } [.ref m0, .int (nI i), .int (nI r), .int (nI j)] [(m0, .inr (10, jmdl R mb)), ((mb 2), .inl (t 0, 784, .inl CU)), ((mb 8), .inl (t 0, 16, .inl PT)), ((mb 9), .inl (t 0, 16, .inl ON)), ((mb 10), .inl (t 0, 16, .inl TW)), ((mb 12), .inl (t 0, 784, .inl TC))] (fun vv uu => (vv = some (.int (tPart CU PT ON TW TC r i j)) ∧ uu = [(m0, .inr (10, jmdl R mb)), ((mb 2), .inl (t 0, 784, .inl CU)), ((mb 8), .inl (t 0, 16, .inl PT)), ((mb 9), .inl (t 0, 16, .inl ON)), ((mb 10), .inl (t 0, 16, .inl TW)), ((mb 12), .inl (t 0, 784, .inl TC))])) (fun _ _ => False) := by
  refine jK_of hfl (by decide +kernel) (Nat.le_of_ble_eq_true rfl) ?_
  intro p e s m args below meth c D A Q CC MM
  refine jr_norm0 [(0, .ref m0), (1, .int (nI i)), (2, .int (nI r)), (3, .int (nI j))] rfl ?_
  refine jr_aload_n CC (jd ddX11_tellsPart 0 rfl) 0 rfl ?_
  refine jr_get (v := .ref (mb 8)) CC (jd ddX11_tellsPart 1 rfl) (jf_X11_49 CC) 0 rfl rfl ?_
  refine jr_iload_n CC (jd ddX11_tellsPart 2 rfl) 1 rfl ?_
  refine jr_ialdN CC (jd ddX11_tellsPart 3 rfl) 2 i rfl rfl (by omega) (by decide) ?_
  refine jr_st [.int 22] (jst1 hpt) ?_
  refine jr_bipush (v := 10) CC (jd ddX11_tellsPart 4 rfl) (by decide) ?_
  refine jr_icmp_ge 15 CC (jd ddX11_tellsPart 5 rfl) (by decide) (fun _ => ?_) (fun h => absurd h (by decide))
  refine jr_aload_n CC (jd ddX11_tellsPart 8 rfl) 0 rfl ?_
  refine jr_get (v := .ref (mb 12)) CC (jd ddX11_tellsPart 9 rfl) (jf_X11_61 CC) 0 rfl rfl ?_
  refine jr_bipush (v := 49) CC (jd ddX11_tellsPart 10 rfl) (by decide) ?_
  refine jr_aload_n CC (jd ddX11_tellsPart 11 rfl) 0 rfl ?_
  refine jr_pc (pc' := 22) rfl ?_
  refine jr_get (v := .ref (mb 9)) CC (jd ddX11_tellsPart 12 rfl) (jf_X11_52 CC) 0 rfl rfl ?_
  refine jr_iload_n CC (jd ddX11_tellsPart 13 rfl) 1 rfl ?_
  refine jr_ialdN CC (jd ddX11_tellsPart 14 rfl) 3 i rfl rfl (by omega) (by decide) ?_
  refine jr_st [.int (nI a), .int 49, .ref (mb 12)] (jst1 hON) ?_
  refine jr_imul CC (jd ddX11_tellsPart 15 rfl) ?_
  refine jr_st [.int (nI (49 * a)), .ref (mb 12)] (jst1 (pk_mul 49 a)) ?_
  refine jr_iload_n CC (jd ddX11_tellsPart 16 rfl) 3 rfl ?_
  refine jr_iadd CC (jd ddX11_tellsPart 17 rfl) ?_
  refine jr_st [.int (nI ((49 * a) + j)), .ref (mb 12)] (jst1 (nI_add (49 * a) j)) ?_
  refine jr_ialdN CC (jd ddX11_tellsPart 18 rfl) 5 ((49 * a) + j) rfl rfl (by omega) (by decide) ?_
  refine jr_istore [(4, .int (TC ((49 * a) + j))), (0, .ref m0), (1, .int (nI i)), (2, .int (nI r)), (3, .int (nI j))] CC (jd ddX11_tellsPart 19 rfl) (by decide) rfl ?_
  refine jr_aload_n CC (jd ddX11_tellsPart 20 rfl) 1 rfl ?_
  refine jr_get (v := .ref (mb 8)) CC (jd ddX11_tellsPart 21 rfl) (jf_X11_49 CC) 0 rfl rfl ?_
  refine jr_pc (pc' := 37) rfl ?_
  refine jr_iload_n CC (jd ddX11_tellsPart 22 rfl) 2 rfl ?_
  refine jr_ialdN CC (jd ddX11_tellsPart 23 rfl) 2 i rfl rfl (by omega) (by decide) ?_
  refine jr_st [.int 22] (jst1 hpt) ?_
  refine jr_bipush (v := 20) CC (jd ddX11_tellsPart 24 rfl) (by decide) ?_
  refine jr_icmp_ge 48 CC (jd ddX11_tellsPart 25 rfl) (by decide) (fun _ => ?_) (fun h => absurd h (by decide))
  refine jr_aload_n CC (jd ddX11_tellsPart 28 rfl) 1 rfl ?_
  refine jr_get (v := .ref (mb 12)) CC (jd ddX11_tellsPart 29 rfl) (jf_X11_61 CC) 0 rfl rfl ?_
  refine jr_bipush (v := 49) CC (jd ddX11_tellsPart 30 rfl) (by decide) ?_
  refine jr_aload_n CC (jd ddX11_tellsPart 31 rfl) 1 rfl ?_
  refine jr_get (v := .ref (mb 10)) CC (jd ddX11_tellsPart 32 rfl) (jf_X11_55 CC) 0 rfl rfl ?_
  refine jr_iload_n CC (jd ddX11_tellsPart 33 rfl) 2 rfl ?_
  refine jr_pc (pc' := 59) rfl ?_
  refine jr_ialdN CC (jd ddX11_tellsPart 34 rfl) 4 i rfl rfl (by omega) (by decide) ?_
  refine jr_st [.int (nI b), .int 49, .ref (mb 12)] (jst1 hTW) ?_
  refine jr_imul CC (jd ddX11_tellsPart 35 rfl) ?_
  refine jr_st [.int (nI (49 * b)), .ref (mb 12)] (jst1 (pk_mul 49 b)) ?_
  refine jr_iload_n CC (jd ddX11_tellsPart 36 rfl) 4 rfl ?_
  refine jr_iadd CC (jd ddX11_tellsPart 37 rfl) ?_
  refine jr_st [.int (nI ((49 * b) + j)), .ref (mb 12)] (jst1 (nI_add (49 * b) j)) ?_
  refine jr_ialdN CC (jd ddX11_tellsPart 38 rfl) 5 ((49 * b) + j) rfl rfl (by omega) (by decide) ?_
  refine jr_istore [(5, .int (TC ((49 * b) + j))), (4, .int (TC ((49 * a) + j))), (0, .ref m0), (1, .int (nI i)), (2, .int (nI r)), (3, .int (nI j))] CC (jd ddX11_tellsPart 39 rfl) (by decide) rfl ?_
  refine jr_aload_n CC (jd ddX11_tellsPart 40 rfl) 2 rfl ?_
  refine jr_get (v := .ref (mb 8)) CC (jd ddX11_tellsPart 41 rfl) (jf_X11_49 CC) 0 rfl rfl ?_
  refine jr_iload_n CC (jd ddX11_tellsPart 42 rfl) 3 rfl ?_
  refine jr_ialdN CC (jd ddX11_tellsPart 43 rfl) 2 i rfl rfl (by omega) (by decide) ?_
  refine jr_st [.int 22] (jst1 hpt) ?_
  refine jr_pc (pc' := 72) rfl ?_
  refine jr_tabIn 322 CC (jd ddX11_tellsPart 44 rfl) (by decide) (by decide) rfl (by decide) ?_
  refine jr_aload_n CC (jd ddX11_tellsPart 134 rfl) 2 rfl ?_
  refine jr_iload CC (jd ddX11_tellsPart 135 rfl) 1 rfl ?_
  refine jr_i2l CC (jd ddX11_tellsPart 136 rfl) ?_
  refine jr_iload CC (jd ddX11_tellsPart 137 rfl) 0 rfl ?_
  refine jr_i2l CC (jd ddX11_tellsPart 138 rfl) ?_
  refine jr_lmul CC (jd ddX11_tellsPart 139 rfl) ?_
  refine jr_callV (q0 := 0) (rest := []) [.long ((Int32.toInt64 (TC ((49 * a) + j))) * (Int32.toInt64 (TC ((49 * b) + j))))] CC (jd ddX11_tellsPart 140 rfl) (jy_X11_220 CC) (k_X11_bound l t hfl m0 ((Int32.toInt64 (TC ((49 * a) + j))) * (Int32.toInt64 (TC ((49 * b) + j))))) [] rfl (by decide) rfl rfl rfl rfl (by decide) (Nat.le_of_ble_eq_true rfl) (by rintro v u h; rcases h with ⟨rfl, rfl⟩ <;> rfl) (fun _ _ h => h.elim) (fun _ _ h => h.elim) (fun v u h => ?_)
  rcases h with ⟨rfl, rfl⟩
  refine jr_norm [(m0, .inr (10, jmdl R mb)), ((mb 2), .inl (t 0, 784, .inl CU)), ((mb 8), .inl (t 0, 16, .inl PT)), ((mb 9), .inl (t 0, 16, .inl ON)), ((mb 10), .inl (t 0, 16, .inl TW)), ((mb 12), .inl (t 0, 784, .inl TC))] [.int (mBnd ((Int32.toInt64 (TC ((49 * a) + j))) * (Int32.toInt64 (TC ((49 * b) + j)))))] 333 0 0 rfl rfl rfl rfl rfl ?_
  exact jr_iret CC MM (jd ddX11_tellsPart 141 rfl) rfl (by decide) (by decide) ⟨by simp [tPart, hpt, hON, nI_tn (show a < 2147483648 by omega), hTW, nI_tn (show b < 2147483648 by omega)], rfl⟩
set_option maxHeartbeats 8000000 in
set_option maxRecDepth 100000 in
theorem k_X11_tellsPart_23 (l : Launch) (t : Nat → ClassId) (hfl : l.stackTraces = false) (m0 : Nat) (mb : Nat → Nat) (R : Nat → Int32) (CU : Nat → Int32) (PT : Nat → Int32) (ON : Nat → Int32) (TW : Nat → Int32) (TC : Nat → Int32) (r : Nat) (i : Nat) (j : Nat) (a : Nat) (b : Nat) (hr : r < 8) (hi : i < 16) (hj : j < 49) (hpt : PT i = 23) (hON : ON i = nI a) (ha : a < 16) (hTW : TW i = nI b) (hb : b < 16) : jKx l t yX11_tellsPart (Cond.code yX11_tellsPart cX11_tellsPart 6 (some .int) :: jWS) { frames := 1, cells := 0, slots := 0, locals := 23 } [.ref m0, .int (nI i), .int (nI r), .int (nI j)] [(m0, .inr (10, jmdl R mb)), ((mb 2), .inl (t 0, 784, .inl CU)), ((mb 8), .inl (t 0, 16, .inl PT)), ((mb 9), .inl (t 0, 16, .inl ON)), ((mb 10), .inl (t 0, 16, .inl TW)), ((mb 12), .inl (t 0, 784, .inl TC))] (fun vv uu => (vv = some (.int (tPart CU PT ON TW TC r i j)) ∧ uu = [(m0, .inr (10, jmdl R mb)), ((mb 2), .inl (t 0, 784, .inl CU)), ((mb 8), .inl (t 0, 16, .inl PT)), ((mb 9), .inl (t 0, 16, .inl ON)), ((mb 10), .inl (t 0, 16, .inl TW)), ((mb 12), .inl (t 0, 784, .inl TC))])) (fun _ _ => False) := by
  refine jK_of hfl (by decide +kernel) (Nat.le_of_ble_eq_true rfl) ?_
  intro p e s m args below meth c D A Q CC MM
  refine jr_norm0 [(0, .ref m0), (1, .int (nI i)), (2, .int (nI r)), (3, .int (nI j))] rfl ?_
  refine jr_aload_n CC (jd ddX11_tellsPart 0 rfl) 0 rfl ?_
  refine jr_get (v := .ref (mb 8)) CC (jd ddX11_tellsPart 1 rfl) (jf_X11_49 CC) 0 rfl rfl ?_
  refine jr_iload_n CC (jd ddX11_tellsPart 2 rfl) 1 rfl ?_
  refine jr_ialdN CC (jd ddX11_tellsPart 3 rfl) 2 i rfl rfl (by omega) (by decide) ?_
  refine jr_st [.int 23] (jst1 hpt) ?_
  refine jr_bipush (v := 10) CC (jd ddX11_tellsPart 4 rfl) (by decide) ?_
  refine jr_icmp_ge 15 CC (jd ddX11_tellsPart 5 rfl) (by decide) (fun _ => ?_) (fun h => absurd h (by decide))
  refine jr_aload_n CC (jd ddX11_tellsPart 8 rfl) 0 rfl ?_
  refine jr_get (v := .ref (mb 12)) CC (jd ddX11_tellsPart 9 rfl) (jf_X11_61 CC) 0 rfl rfl ?_
  refine jr_bipush (v := 49) CC (jd ddX11_tellsPart 10 rfl) (by decide) ?_
  refine jr_aload_n CC (jd ddX11_tellsPart 11 rfl) 0 rfl ?_
  refine jr_pc (pc' := 22) rfl ?_
  refine jr_get (v := .ref (mb 9)) CC (jd ddX11_tellsPart 12 rfl) (jf_X11_52 CC) 0 rfl rfl ?_
  refine jr_iload_n CC (jd ddX11_tellsPart 13 rfl) 1 rfl ?_
  refine jr_ialdN CC (jd ddX11_tellsPart 14 rfl) 3 i rfl rfl (by omega) (by decide) ?_
  refine jr_st [.int (nI a), .int 49, .ref (mb 12)] (jst1 hON) ?_
  refine jr_imul CC (jd ddX11_tellsPart 15 rfl) ?_
  refine jr_st [.int (nI (49 * a)), .ref (mb 12)] (jst1 (pk_mul 49 a)) ?_
  refine jr_iload_n CC (jd ddX11_tellsPart 16 rfl) 3 rfl ?_
  refine jr_iadd CC (jd ddX11_tellsPart 17 rfl) ?_
  refine jr_st [.int (nI ((49 * a) + j)), .ref (mb 12)] (jst1 (nI_add (49 * a) j)) ?_
  refine jr_ialdN CC (jd ddX11_tellsPart 18 rfl) 5 ((49 * a) + j) rfl rfl (by omega) (by decide) ?_
  refine jr_istore [(4, .int (TC ((49 * a) + j))), (0, .ref m0), (1, .int (nI i)), (2, .int (nI r)), (3, .int (nI j))] CC (jd ddX11_tellsPart 19 rfl) (by decide) rfl ?_
  refine jr_aload_n CC (jd ddX11_tellsPart 20 rfl) 1 rfl ?_
  refine jr_get (v := .ref (mb 8)) CC (jd ddX11_tellsPart 21 rfl) (jf_X11_49 CC) 0 rfl rfl ?_
  refine jr_pc (pc' := 37) rfl ?_
  refine jr_iload_n CC (jd ddX11_tellsPart 22 rfl) 2 rfl ?_
  refine jr_ialdN CC (jd ddX11_tellsPart 23 rfl) 2 i rfl rfl (by omega) (by decide) ?_
  refine jr_st [.int 23] (jst1 hpt) ?_
  refine jr_bipush (v := 20) CC (jd ddX11_tellsPart 24 rfl) (by decide) ?_
  refine jr_icmp_ge 48 CC (jd ddX11_tellsPart 25 rfl) (by decide) (fun _ => ?_) (fun h => absurd h (by decide))
  refine jr_aload_n CC (jd ddX11_tellsPart 28 rfl) 1 rfl ?_
  refine jr_get (v := .ref (mb 12)) CC (jd ddX11_tellsPart 29 rfl) (jf_X11_61 CC) 0 rfl rfl ?_
  refine jr_bipush (v := 49) CC (jd ddX11_tellsPart 30 rfl) (by decide) ?_
  refine jr_aload_n CC (jd ddX11_tellsPart 31 rfl) 1 rfl ?_
  refine jr_get (v := .ref (mb 10)) CC (jd ddX11_tellsPart 32 rfl) (jf_X11_55 CC) 0 rfl rfl ?_
  refine jr_iload_n CC (jd ddX11_tellsPart 33 rfl) 2 rfl ?_
  refine jr_pc (pc' := 59) rfl ?_
  refine jr_ialdN CC (jd ddX11_tellsPart 34 rfl) 4 i rfl rfl (by omega) (by decide) ?_
  refine jr_st [.int (nI b), .int 49, .ref (mb 12)] (jst1 hTW) ?_
  refine jr_imul CC (jd ddX11_tellsPart 35 rfl) ?_
  refine jr_st [.int (nI (49 * b)), .ref (mb 12)] (jst1 (pk_mul 49 b)) ?_
  refine jr_iload_n CC (jd ddX11_tellsPart 36 rfl) 4 rfl ?_
  refine jr_iadd CC (jd ddX11_tellsPart 37 rfl) ?_
  refine jr_st [.int (nI ((49 * b) + j)), .ref (mb 12)] (jst1 (nI_add (49 * b) j)) ?_
  refine jr_ialdN CC (jd ddX11_tellsPart 38 rfl) 5 ((49 * b) + j) rfl rfl (by omega) (by decide) ?_
  refine jr_istore [(5, .int (TC ((49 * b) + j))), (4, .int (TC ((49 * a) + j))), (0, .ref m0), (1, .int (nI i)), (2, .int (nI r)), (3, .int (nI j))] CC (jd ddX11_tellsPart 39 rfl) (by decide) rfl ?_
  refine jr_aload_n CC (jd ddX11_tellsPart 40 rfl) 2 rfl ?_
  refine jr_get (v := .ref (mb 8)) CC (jd ddX11_tellsPart 41 rfl) (jf_X11_49 CC) 0 rfl rfl ?_
  refine jr_iload_n CC (jd ddX11_tellsPart 42 rfl) 3 rfl ?_
  refine jr_ialdN CC (jd ddX11_tellsPart 43 rfl) 2 i rfl rfl (by omega) (by decide) ?_
  refine jr_st [.int 23] (jst1 hpt) ?_
  refine jr_pc (pc' := 72) rfl ?_
  refine jr_tabIn 334 CC (jd ddX11_tellsPart 44 rfl) (by decide) (by decide) rfl (by decide) ?_
  refine jr_iload CC (jd ddX11_tellsPart 142 rfl) 1 rfl ?_
  refine jr_iload CC (jd ddX11_tellsPart 143 rfl) 0 rfl ?_
  refine jr_icmp_ge 346 CC (jd ddX11_tellsPart 144 rfl) (by decide) (fun c3 => ?_) (fun c3 => ?_)
  · refine jr_iload CC (jd ddX11_tellsPart 147 rfl) 0 rfl ?_
    exact jr_iret CC MM (jd ddX11_tellsPart 148 rfl) rfl (by decide) (by decide) ⟨by simp [tPart, hpt, hON, nI_tn (show a < 2147483648 by omega), hTW, nI_tn (show b < 2147483648 by omega), c3], rfl⟩
  · refine jr_iload CC (jd ddX11_tellsPart 145 rfl) 1 rfl ?_
    refine jr_goto 348 CC (jd ddX11_tellsPart 146 rfl) (by decide) ?_
    exact jr_iret CC MM (jd ddX11_tellsPart 148 rfl) rfl (by decide) (by decide) ⟨by simp [tPart, hpt, hON, nI_tn (show a < 2147483648 by omega), hTW, nI_tn (show b < 2147483648 by omega), c3], rfl⟩
set_option maxHeartbeats 8000000 in
set_option maxRecDepth 100000 in
theorem k_X11_tellsPart_24 (l : Launch) (t : Nat → ClassId) (hfl : l.stackTraces = false) (m0 : Nat) (mb : Nat → Nat) (R : Nat → Int32) (CU : Nat → Int32) (PT : Nat → Int32) (ON : Nat → Int32) (TW : Nat → Int32) (TC : Nat → Int32) (r : Nat) (i : Nat) (j : Nat) (a : Nat) (b : Nat) (hr : r < 8) (hi : i < 16) (hj : j < 49) (hpt : PT i = 24) (hON : ON i = nI a) (ha : a < 16) (hTW : TW i = nI b) (hb : b < 16) : jKx l t yX11_tellsPart (Cond.code yX11_tellsPart cX11_tellsPart 6 (some .int) :: jWS) { frames := 1, cells := 0, slots := 0, locals := 23 } [.ref m0, .int (nI i), .int (nI r), .int (nI j)] [(m0, .inr (10, jmdl R mb)), ((mb 2), .inl (t 0, 784, .inl CU)), ((mb 8), .inl (t 0, 16, .inl PT)), ((mb 9), .inl (t 0, 16, .inl ON)), ((mb 10), .inl (t 0, 16, .inl TW)), ((mb 12), .inl (t 0, 784, .inl TC))] (fun vv uu => (vv = some (.int (tPart CU PT ON TW TC r i j)) ∧ uu = [(m0, .inr (10, jmdl R mb)), ((mb 2), .inl (t 0, 784, .inl CU)), ((mb 8), .inl (t 0, 16, .inl PT)), ((mb 9), .inl (t 0, 16, .inl ON)), ((mb 10), .inl (t 0, 16, .inl TW)), ((mb 12), .inl (t 0, 784, .inl TC))])) (fun _ _ => False) := by
  refine jK_of hfl (by decide +kernel) (Nat.le_of_ble_eq_true rfl) ?_
  intro p e s m args below meth c D A Q CC MM
  refine jr_norm0 [(0, .ref m0), (1, .int (nI i)), (2, .int (nI r)), (3, .int (nI j))] rfl ?_
  refine jr_aload_n CC (jd ddX11_tellsPart 0 rfl) 0 rfl ?_
  refine jr_get (v := .ref (mb 8)) CC (jd ddX11_tellsPart 1 rfl) (jf_X11_49 CC) 0 rfl rfl ?_
  refine jr_iload_n CC (jd ddX11_tellsPart 2 rfl) 1 rfl ?_
  refine jr_ialdN CC (jd ddX11_tellsPart 3 rfl) 2 i rfl rfl (by omega) (by decide) ?_
  refine jr_st [.int 24] (jst1 hpt) ?_
  refine jr_bipush (v := 10) CC (jd ddX11_tellsPart 4 rfl) (by decide) ?_
  refine jr_icmp_ge 15 CC (jd ddX11_tellsPart 5 rfl) (by decide) (fun _ => ?_) (fun h => absurd h (by decide))
  refine jr_aload_n CC (jd ddX11_tellsPart 8 rfl) 0 rfl ?_
  refine jr_get (v := .ref (mb 12)) CC (jd ddX11_tellsPart 9 rfl) (jf_X11_61 CC) 0 rfl rfl ?_
  refine jr_bipush (v := 49) CC (jd ddX11_tellsPart 10 rfl) (by decide) ?_
  refine jr_aload_n CC (jd ddX11_tellsPart 11 rfl) 0 rfl ?_
  refine jr_pc (pc' := 22) rfl ?_
  refine jr_get (v := .ref (mb 9)) CC (jd ddX11_tellsPart 12 rfl) (jf_X11_52 CC) 0 rfl rfl ?_
  refine jr_iload_n CC (jd ddX11_tellsPart 13 rfl) 1 rfl ?_
  refine jr_ialdN CC (jd ddX11_tellsPart 14 rfl) 3 i rfl rfl (by omega) (by decide) ?_
  refine jr_st [.int (nI a), .int 49, .ref (mb 12)] (jst1 hON) ?_
  refine jr_imul CC (jd ddX11_tellsPart 15 rfl) ?_
  refine jr_st [.int (nI (49 * a)), .ref (mb 12)] (jst1 (pk_mul 49 a)) ?_
  refine jr_iload_n CC (jd ddX11_tellsPart 16 rfl) 3 rfl ?_
  refine jr_iadd CC (jd ddX11_tellsPart 17 rfl) ?_
  refine jr_st [.int (nI ((49 * a) + j)), .ref (mb 12)] (jst1 (nI_add (49 * a) j)) ?_
  refine jr_ialdN CC (jd ddX11_tellsPart 18 rfl) 5 ((49 * a) + j) rfl rfl (by omega) (by decide) ?_
  refine jr_istore [(4, .int (TC ((49 * a) + j))), (0, .ref m0), (1, .int (nI i)), (2, .int (nI r)), (3, .int (nI j))] CC (jd ddX11_tellsPart 19 rfl) (by decide) rfl ?_
  refine jr_aload_n CC (jd ddX11_tellsPart 20 rfl) 1 rfl ?_
  refine jr_get (v := .ref (mb 8)) CC (jd ddX11_tellsPart 21 rfl) (jf_X11_49 CC) 0 rfl rfl ?_
  refine jr_pc (pc' := 37) rfl ?_
  refine jr_iload_n CC (jd ddX11_tellsPart 22 rfl) 2 rfl ?_
  refine jr_ialdN CC (jd ddX11_tellsPart 23 rfl) 2 i rfl rfl (by omega) (by decide) ?_
  refine jr_st [.int 24] (jst1 hpt) ?_
  refine jr_bipush (v := 20) CC (jd ddX11_tellsPart 24 rfl) (by decide) ?_
  refine jr_icmp_ge 48 CC (jd ddX11_tellsPart 25 rfl) (by decide) (fun _ => ?_) (fun h => absurd h (by decide))
  refine jr_aload_n CC (jd ddX11_tellsPart 28 rfl) 1 rfl ?_
  refine jr_get (v := .ref (mb 12)) CC (jd ddX11_tellsPart 29 rfl) (jf_X11_61 CC) 0 rfl rfl ?_
  refine jr_bipush (v := 49) CC (jd ddX11_tellsPart 30 rfl) (by decide) ?_
  refine jr_aload_n CC (jd ddX11_tellsPart 31 rfl) 1 rfl ?_
  refine jr_get (v := .ref (mb 10)) CC (jd ddX11_tellsPart 32 rfl) (jf_X11_55 CC) 0 rfl rfl ?_
  refine jr_iload_n CC (jd ddX11_tellsPart 33 rfl) 2 rfl ?_
  refine jr_pc (pc' := 59) rfl ?_
  refine jr_ialdN CC (jd ddX11_tellsPart 34 rfl) 4 i rfl rfl (by omega) (by decide) ?_
  refine jr_st [.int (nI b), .int 49, .ref (mb 12)] (jst1 hTW) ?_
  refine jr_imul CC (jd ddX11_tellsPart 35 rfl) ?_
  refine jr_st [.int (nI (49 * b)), .ref (mb 12)] (jst1 (pk_mul 49 b)) ?_
  refine jr_iload_n CC (jd ddX11_tellsPart 36 rfl) 4 rfl ?_
  refine jr_iadd CC (jd ddX11_tellsPart 37 rfl) ?_
  refine jr_st [.int (nI ((49 * b) + j)), .ref (mb 12)] (jst1 (nI_add (49 * b) j)) ?_
  refine jr_ialdN CC (jd ddX11_tellsPart 38 rfl) 5 ((49 * b) + j) rfl rfl (by omega) (by decide) ?_
  refine jr_istore [(5, .int (TC ((49 * b) + j))), (4, .int (TC ((49 * a) + j))), (0, .ref m0), (1, .int (nI i)), (2, .int (nI r)), (3, .int (nI j))] CC (jd ddX11_tellsPart 39 rfl) (by decide) rfl ?_
  refine jr_aload_n CC (jd ddX11_tellsPart 40 rfl) 2 rfl ?_
  refine jr_get (v := .ref (mb 8)) CC (jd ddX11_tellsPart 41 rfl) (jf_X11_49 CC) 0 rfl rfl ?_
  refine jr_iload_n CC (jd ddX11_tellsPart 42 rfl) 3 rfl ?_
  refine jr_ialdN CC (jd ddX11_tellsPart 43 rfl) 2 i rfl rfl (by omega) (by decide) ?_
  refine jr_st [.int 24] (jst1 hpt) ?_
  refine jr_pc (pc' := 72) rfl ?_
  refine jr_tabOut 349 CC (jd ddX11_tellsPart 44 rfl) (Or.inr (by decide)) (by decide) ?_
  refine jr_iload CC (jd ddX11_tellsPart 149 rfl) 1 rfl ?_
  refine jr_iload CC (jd ddX11_tellsPart 150 rfl) 0 rfl ?_
  refine jr_icmp_ge 361 CC (jd ddX11_tellsPart 151 rfl) (by decide) (fun c3 => ?_) (fun c3 => ?_)
  · refine jr_iload CC (jd ddX11_tellsPart 154 rfl) 1 rfl ?_
    exact jr_iret CC MM (jd ddX11_tellsPart 155 rfl) rfl (by decide) (by decide) ⟨by simp [tPart, hpt, hON, nI_tn (show a < 2147483648 by omega), hTW, nI_tn (show b < 2147483648 by omega), c3], rfl⟩
  · refine jr_iload CC (jd ddX11_tellsPart 152 rfl) 0 rfl ?_
    refine jr_goto 363 CC (jd ddX11_tellsPart 153 rfl) (by decide) ?_
    exact jr_iret CC MM (jd ddX11_tellsPart 155 rfl) rfl (by decide) (by decide) ⟨by simp [tPart, hpt, hON, nI_tn (show a < 2147483648 by omega), hTW, nI_tn (show b < 2147483648 by omega), c3], rfl⟩
theorem k_X11_tellsPart_u (l : Launch) (t : Nat → ClassId) (hfl : l.stackTraces = false) (m0 : Nat) (mb : Nat → Nat) (R : Nat → Int32) (CU : Nat → Int32) (PT : Nat → Int32) (ON : Nat → Int32) (TW : Nat → Int32) (TC : Nat → Int32) (r : Nat) (i : Nat) (j : Nat) (hr : r < 8) (hi : i < 16) (hj : j < 49) (hOK : pOK PT ON TW i) : jKx l t yX11_tellsPart (Cond.code yX11_tellsPart cX11_tellsPart 6 (some .int) :: jWS) { frames := 1, cells := 0, slots := 0, locals := 23 } [.ref m0, .int (nI i), .int (nI r), .int (nI j)] [(m0, .inr (10, jmdl R mb)), ((mb 2), .inl (t 0, 784, .inl CU)), ((mb 8), .inl (t 0, 16, .inl PT)), ((mb 9), .inl (t 0, 16, .inl ON)), ((mb 10), .inl (t 0, 16, .inl TW)), ((mb 12), .inl (t 0, 784, .inl TC))] (fun vv uu => (vv = some (.int (tPart CU PT ON TW TC r i j)) ∧ uu = [(m0, .inr (10, jmdl R mb)), ((mb 2), .inl (t 0, 784, .inl CU)), ((mb 8), .inl (t 0, 16, .inl PT)), ((mb 9), .inl (t 0, 16, .inl ON)), ((mb 10), .inl (t 0, 16, .inl TW)), ((mb 12), .inl (t 0, 784, .inl TC))])) (fun _ _ => False) := by
  rcases hOK with hpt | hpt | hpt | ⟨hq, a, ha, hON⟩ | ⟨hq, a, b, ha, hb, hON, hTW⟩
  · exact k_X11_tellsPart_0 l t hfl m0 mb R CU PT ON TW TC r i j hr hi hj hpt
  · exact k_X11_tellsPart_1 l t hfl m0 mb R CU PT ON TW TC r i j hr hi hj hpt
  · exact k_X11_tellsPart_2 l t hfl m0 mb R CU PT ON TW TC r i j hr hi hj hpt
  · rcases hq with hpt | hpt | hpt | hpt
    · exact k_X11_tellsPart_10 l t hfl m0 mb R CU PT ON TW TC r i j a hr hi hj hpt hON (by omega)
    · exact k_X11_tellsPart_11 l t hfl m0 mb R CU PT ON TW TC r i j a hr hi hj hpt hON (by omega)
    · exact k_X11_tellsPart_12 l t hfl m0 mb R CU PT ON TW TC r i j a hr hi hj hpt hON (by omega)
    · exact k_X11_tellsPart_13 l t hfl m0 mb R CU PT ON TW TC r i j a hr hi hj hpt hON (by omega)
  · rcases hq with hpt | hpt | hpt | hpt | hpt
    · exact k_X11_tellsPart_20 l t hfl m0 mb R CU PT ON TW TC r i j a b hr hi hj hpt hON (by omega) hTW (by omega)
    · exact k_X11_tellsPart_21 l t hfl m0 mb R CU PT ON TW TC r i j a b hr hi hj hpt hON (by omega) hTW (by omega)
    · exact k_X11_tellsPart_22 l t hfl m0 mb R CU PT ON TW TC r i j a b hr hi hj hpt hON (by omega) hTW (by omega)
    · exact k_X11_tellsPart_23 l t hfl m0 mb R CU PT ON TW TC r i j a b hr hi hj hpt hON (by omega) hTW (by omega)
    · exact k_X11_tellsPart_24 l t hfl m0 mb R CU PT ON TW TC r i j a b hr hi hj hpt hON (by omega) hTW (by omega)
