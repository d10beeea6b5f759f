def jset (a i : Nat) (v : Int32) (f : Nat → Int32) : Nat → Int32 := fun j => if a ≤ j ∧ j < i then v else f j
theorem jset_0 (a : Nat) (v : Int32) (f : Nat → Int32) : jset a a v f = f := by
  funext j
  unfold jset
  rw [if_neg (by omega)]
theorem jset_s {a i : Nat} (h : a ≤ i) (v : Int32) (f : Nat → Int32) : upd (jset a i v f) i v = jset a (i + 1) v f := by
  funext j
  unfold upd jset
  by_cases h1 : j = i
  · subst h1; simp [h]
  · by_cases h2 : a ≤ j ∧ j < i
    · rw [if_neg h1, if_pos h2, if_pos (by omega)]
    · rw [if_neg h1, if_neg h2, if_neg (by omega)]
/-- the first offence among the d values from i on -/
def jlow (f fl ce : Nat → Int32) : Nat → Nat → Int32
  | 0, _ => -1
  | d + 1, i => if f i < fl i then nI i else if f i ≤ ce i then jlow f fl ce d (i + 1) else nI i
def jcp (n P q : Nat) (h f : Nat → Int32) : Nat → Int32 := fun j => if j < q then h ((n - (P - j)) % 16) else f j
theorem jcp_0 (n P : Nat) (h f : Nat → Int32) : jcp n P 0 h f = f := rfl
theorem jcp_s {n P q : Nat} (h f : Nat → Int32) : upd (jcp n P q h f) q (h ((n - (P - q)) % 16)) = jcp n P (q + 1) h f := by
  funext j
  unfold upd jcp
  by_cases h1 : j = q
  · subst h1; simp
  · by_cases h2 : j < q
    · rw [if_neg h1, if_pos h2, if_pos (by omega)]
    · rw [if_neg h1, if_neg h2, if_neg (by omega)]
def hO (M : Nat → Int32) (n : Int32) : Int32 := if M 7 = 0 then 0 else if M 6 < n - M 8 then 0 else 1
theorem hO01 (M : Nat → Int32) (n : Int32) : hO M n = 0 ∨ hO M n = 1 := by
  unfold hO; (repeat' split) <;> first | exact Or.inl rfl | exact Or.inr rfl
/-- whether a trigger may be, when no record is being caught -/
def mayT (M : Nat → Int32) (n : Int32) : Int32 := if M 3 = 0 then 0 else if 8 ≤ M 1 then 0 else if n < M 4 then 0 else if hO M n = 0 then 1 else 0
theorem mayT01 (M : Nat → Int32) (n : Int32) : mayT M n = 0 ∨ mayT M n = 1 := by
  unfold mayT; (repeat' split) <;> first | exact Or.inl rfl | exact Or.inr rfl
set_option maxHeartbeats 8000000 in
set_option maxRecDepth 100000 in
theorem k_X5_limit (l : Launch) (t : Nat → ClassId) (hfl : l.stackTraces = false) (g0 : Nat) (g1 : Nat) (g2 : Nat) (fl : Nat → Int32) (ce : Nat → Int32) (a : Nat) (b : Nat) (x : Int32) (y : Int32) (hab : a ≤ b) (hb : b < 49) : jKx l t yX5_limit (Cond.code yX5_limit cX5_limit 6 none :: jWS) { frames := 0, cells := 0, slots := 0, locals := 0 } [.ref g0, .int (nI a), .int (nI b), .int x, .int y] [(g0, .inr (4, [.ref g1, .ref g2])), (g1, .inl (t 0, 49, .inl fl)), (g2, .inl (t 0, 49, .inl ce))] (fun vv uu => (vv = none ∧ uu = [(g0, .inr (4, [.ref g1, .ref g2])), (g1, .inl (t 0, 49, .inl (jset a (b + 1) x fl))), (g2, .inl (t 0, 49, .inl (jset a (b + 1) y ce)))])) (fun _ _ => False) := by
  refine jK_of hfl (by decide +kernel) (Nat.le_of_ble_eq_true rfl) ?_
  intro p e s m args below meth c D A Q CC MM
  refine jr_norm0 [(0, .ref g0), (1, .int (nI a)), (2, .int (nI b)), (3, .int x), (4, .int y)] rfl ?_
  refine jr_ws [(g0, .inr (4, [.ref g1, .ref g2])), (g1, .inl (t 0, 49, .inl (jset a a x fl))), (g2, .inl (t 0, 49, .inl (jset a a y ce)))] (by rw [jset_0, jset_0]) ?_
  refine jr_iload_n CC (jd ddX5_limit 0 rfl) 1 rfl ?_
  refine jr_istore [(5, .int (nI a)), (0, .ref g0), (1, .int (nI a)), (2, .int (nI b)), (3, .int x), (4, .int y)] CC (jd ddX5_limit 1 rfl) (by decide) rfl ?_
  have hL1 : ∀ (d9 : Nat) (i : Nat) (ha : a ≤ i) (hi : i ≤ b + 1), b + 1 - i < d9 → J p l e { frames := 0, cells := 0, slots := 0, locals := 0 } s m args below meth c D A 6 Q [(g0, .inr (4, [.ref g1, .ref g2])), (g1, .inl (t 0, 49, .inl (jset a i x fl))), (g2, .inl (t 0, 49, .inl (jset a i y ce)))] [(0, .ref g0), (1, .int (nI a)), (2, .int (nI b)), (3, .int x), (4, .int y), (5, .int (nI i))] 3 [] 0 0 := by
    intro d9
    induction d9 with
    | zero => intro i ha hi hmu; exact absurd hmu (Nat.not_lt_zero _)
    | succ d9 ih3 =>
      intro i ha hi hmu
      refine jr_iload CC (jd ddX5_limit 2 rfl) 5 rfl ?_
      refine jr_iload_n CC (jd ddX5_limit 3 rfl) 2 rfl ?_
      refine jr_icmp_gt 32 CC (jd ddX5_limit 4 rfl) (by decide) (fun c2 => ?_) (fun c2 => ?_)
      · have n2 := jlt_of (a := b) (b := i) c2 (by omega) (by omega)
        exact jr_vret CC MM (jd ddX5_limit 17 rfl) rfl (by decide) (by decide) ⟨rfl, by rw [show b + 1 = i by omega]⟩
      · have n2 := jlt_not (a := b) (b := i) c2 (by omega) (by omega)
        refine jr_aload_n CC (jd ddX5_limit 5 rfl) 0 rfl ?_
        refine jr_get (v := .ref g1) CC (jd ddX5_limit 6 rfl) (jf_X5_9 CC) 0 rfl rfl ?_
        refine jr_iload CC (jd ddX5_limit 7 rfl) 5 rfl ?_
        refine jr_iload_n CC (jd ddX5_limit 8 rfl) 3 rfl ?_
        refine jr_iastN CC (jd ddX5_limit 9 rfl) 1 i rfl rfl (by omega) (by decide) ?_
        refine jr_aload_n CC (jd ddX5_limit 10 rfl) 0 rfl ?_
        refine jr_get (v := .ref g2) CC (jd ddX5_limit 11 rfl) (jf_X5_15 CC) 0 rfl rfl ?_
        refine jr_pc (pc' := 21) rfl ?_
        refine jr_iload CC (jd ddX5_limit 12 rfl) 5 rfl ?_
        refine jr_iload CC (jd ddX5_limit 13 rfl) 4 rfl ?_
        refine jr_iastN CC (jd ddX5_limit 14 rfl) 2 i rfl rfl (by omega) (by decide) ?_
        refine jr_iinc [(5, .int (nI (i + 1))), (0, .ref g0), (1, .int (nI a)), (2, .int (nI b)), (3, .int x), (4, .int y)] CC (jd ddX5_limit 15 rfl) 5 rfl (nI_1 _) (by decide) rfl ?_
        refine jr_goto 3 CC (jd ddX5_limit 16 rfl) (by decide) ?_
        refine jr_ws [(g0, .inr (4, [.ref g1, .ref g2])), (g1, .inl (t 0, 49, .inl (jset a (i + 1) x fl))), (g2, .inl (t 0, 49, .inl (jset a (i + 1) y ce)))] (by rw [← jset_s ha, ← jset_s ha]; rfl) ?_
        refine jr_norm [(g0, .inr (4, [.ref g1, .ref g2])), (g1, .inl (t 0, 49, .inl (jset a (i + 1) x fl))), (g2, .inl (t 0, 49, .inl (jset a (i + 1) y ce)))] [] 3 0 0 rfl rfl rfl rfl rfl ?_
        refine jr_lv [1, 2, 3, 4, 5, 0] [(0, .ref g0), (1, .int (nI a)), (2, .int (nI b)), (3, .int x), (4, .int y), (5, .int (nI (i + 1)))] rfl ?_
        exact ih3 (i + 1) (by omega) (by omega) (by omega)
  refine jr_norm [(g0, .inr (4, [.ref g1, .ref g2])), (g1, .inl (t 0, 49, .inl (jset a a x fl))), (g2, .inl (t 0, 49, .inl (jset a a y ce)))] [] 3 0 0 rfl rfl rfl rfl rfl ?_
  refine jr_lv [1, 2, 3, 4, 5, 0] [(0, .ref g0), (1, .int (nI a)), (2, .int (nI b)), (3, .int x), (4, .int y), (5, .int (nI a))] rfl ?_
  exact hL1 (b + 1 - a + 1) a (Nat.le_refl _) (by omega) (Nat.lt_succ_self _)
set_option maxHeartbeats 8000000 in
set_option maxRecDepth 100000 in
theorem k_X5_lowestOffence (l : Launch) (t : Nat → ClassId) (hfl : l.stackTraces = false) (g0 : Nat) (g1 : Nat) (g2 : Nat) (fl : Nat → Int32) (ce : Nat → Int32) (h0 : Nat) (h1 : Nat) (h2 : Nat) (h3 : Nat) (tr : Int32) (wa : Int32) (k : Nat) (f0 : Nat → Int32) (f1 : Nat → Int32) (hk : k ≤ 49) : jKx l t yX5_lowestOffence (Cond.code yX5_lowestOffence cX5_lowestOffence 4 (some .int) :: jWS) { frames := 1, cells := 0, slots := 0, locals := 22 } [.ref g0, .ref h0] [(g0, .inr (4, [.ref g1, .ref g2])), (g1, .inl (t 0, 49, .inl fl)), (g2, .inl (t 0, 49, .inl ce)), (h0, .inr (0, [.ref h1, .int tr, .int wa, .int (nI k)])), (h1, .inl (t 1, 2, .inr (.inr (.inr (.inr (jr2 h2 h3)))))), (h2, .inl (t 0, 49, .inl f0)), (h3, .inl (t 0, 49, .inl f1))] (fun vv uu => (vv = some (.int (jlow f0 fl ce k 0)) ∧ uu = [(g0, .inr (4, [.ref g1, .ref g2])), (g1, .inl (t 0, 49, .inl fl)), (g2, .inl (t 0, 49, .inl ce)), (h0, .inr (0, [.ref h1, .int tr, .int wa, .int (nI k)])), (h1, .inl (t 1, 2, .inr (.inr (.inr (.inr (jr2 h2 h3)))))), (h2, .inl (t 0, 49, .inl f0)), (h3, .inl (t 0, 49, .inl f1))])) (fun _ _ => False) := by
  refine jK_of hfl (by decide +kernel) (Nat.le_of_ble_eq_true rfl) ?_
  intro p e s m args below meth c D A Q CC MM
  refine jr_norm0 [(0, .ref g0), (1, .ref h0)] rfl ?_
  refine jr_iconst (v := 0) CC (jd ddX5_lowestOffence 0 rfl) (by decide) ?_
  refine jr_istore_n 2 [(2, .int 0), (0, .ref g0), (1, .ref h0)] CC (jd ddX5_lowestOffence 1 rfl) rfl (by decide) rfl ?_
  have hL1 : ∀ (d9 : Nat) (i : Nat) (hi : i ≤ k) (hq : jlow f0 fl ce k 0 = jlow f0 fl ce (k - i) i), k - i < d9 → J p l e { frames := 1, cells := 0, slots := 0, locals := 22 } s m args below meth c D A 4 Q [(g0, .inr (4, [.ref g1, .ref g2])), (g1, .inl (t 0, 49, .inl fl)), (g2, .inl (t 0, 49, .inl ce)), (h0, .inr (0, [.ref h1, .int tr, .int wa, .int (nI k)])), (h1, .inl (t 1, 2, .inr (.inr (.inr (.inr (jr2 h2 h3)))))), (h2, .inl (t 0, 49, .inl f0)), (h3, .inl (t 0, 49, .inl f1))] [(0, .ref g0), (1, .ref h0), (2, .int (nI i))] 2 [] 0 0 := by
    intro d9
    induction d9 with
    | zero => intro i hi hq hmu; exact absurd hmu (Nat.not_lt_zero _)
    | succ d9 ih2 =>
      intro i hi hq hmu
      refine jr_iload_n CC (jd ddX5_lowestOffence 2 rfl) 2 rfl ?_
      refine jr_aload_n CC (jd ddX5_lowestOffence 3 rfl) 1 rfl ?_
      refine jr_get (v := .int (nI k)) CC (jd ddX5_lowestOffence 4 rfl) (jf_X5_24 CC) 3 rfl rfl ?_
      refine jr_icmp_ge 45 CC (jd ddX5_lowestOffence 5 rfl) (by decide) (fun c2 => ?_) (fun c2 => ?_)
      · have n2 := jle_of (a := k) (b := i) c2 (by omega) (by omega)
        refine jr_iconst (v := (-1)) CC (jd ddX5_lowestOffence 27 rfl) (by decide) ?_
        exact jr_iret CC MM (jd ddX5_lowestOffence 28 rfl) rfl (by decide) (by decide) ⟨by rw [hq, show k - i = 0 by omega]; rfl, rfl⟩
      · have n2 := jle_not (a := k) (b := i) c2 (by omega) (by omega)
        refine jr_aload_n CC (jd ddX5_lowestOffence 6 rfl) 1 rfl ?_
        refine jr_iconst (v := 0) CC (jd ddX5_lowestOffence 7 rfl) (by decide) ?_
        refine jr_iload_n CC (jd ddX5_lowestOffence 8 rfl) 2 rfl ?_
        refine jr_callV (q0 := 3) (rest := []) [.int 0, .int (nI i)] CC (jd ddX5_lowestOffence 9 rfl) (jy_X5_30 CC) (k_X0_at l t hfl h0 h1 h2 h3 tr wa (nI k) f0 f1 0 i (by first | assumption | omega | decide)) [3, 4, 5, 6] rfl (by decide) rfl rfl rfl rfl (by decide) (Nat.le_of_ble_eq_true rfl) (by rintro v u h; rcases h with ⟨h0, rfl, rfl⟩ | ⟨h0, rfl, rfl⟩ <;> rfl) (fun _ _ h => h.elim) (fun _ _ h => h.elim) (fun v u h => ?_)
        rcases h with ⟨c3, rfl, rfl⟩ | ⟨c4, rfl, rfl⟩
        · exact absurd c3 (by decide)
        · refine jr_norm [(g0, .inr (4, [.ref g1, .ref g2])), (g1, .inl (t 0, 49, .inl fl)), (g2, .inl (t 0, 49, .inl ce)), (h0, .inr (0, [.ref h1, .int tr, .int wa, .int (nI k)])), (h1, .inl (t 1, 2, .inr (.inr (.inr (.inr (jr2 h2 h3)))))), (h2, .inl (t 0, 49, .inl f0)), (h3, .inl (t 0, 49, .inl f1))] [.int (f0 i)] 16 0 0 rfl rfl rfl rfl rfl ?_
          refine jr_istore_n 3 [(3, .int (f0 i)), (0, .ref g0), (1, .ref h0), (2, .int (nI i))] CC (jd ddX5_lowestOffence 10 rfl) rfl (by decide) rfl ?_
          refine jr_iload_n CC (jd ddX5_lowestOffence 11 rfl) 0 rfl ?_
          refine jr_aload_n CC (jd ddX5_lowestOffence 12 rfl) 1 rfl ?_
          refine jr_get (v := .ref g1) CC (jd ddX5_lowestOffence 13 rfl) (jf_X5_9 CC) 0 rfl rfl ?_
          refine jr_iload_n CC (jd ddX5_lowestOffence 14 rfl) 3 rfl ?_
          refine jr_ialdN CC (jd ddX5_lowestOffence 15 rfl) 1 i rfl rfl (by omega) (by decide) ?_
          refine jr_icmp_lt 37 CC (jd ddX5_lowestOffence 16 rfl) (by decide) (fun c5 => ?_) (fun c5 => ?_)
          · refine jr_iload_n CC (jd ddX5_lowestOffence 23 rfl) 3 rfl ?_
            exact jr_iret CC MM (jd ddX5_lowestOffence 24 rfl) rfl (by decide) (by decide) ⟨by rw [hq, show k - i = (k - i - 1) + 1 by omega]; simp [jlow, c2, c4, c5], rfl⟩
          · refine jr_iload_n CC (jd ddX5_lowestOffence 17 rfl) 0 rfl ?_
            refine jr_aload_n CC (jd ddX5_lowestOffence 18 rfl) 1 rfl ?_
            refine jr_get (v := .ref g2) CC (jd ddX5_lowestOffence 19 rfl) (jf_X5_15 CC) 0 rfl rfl ?_
            refine jr_pc (pc' := 32) rfl ?_
            refine jr_iload_n CC (jd ddX5_lowestOffence 20 rfl) 3 rfl ?_
            refine jr_ialdN CC (jd ddX5_lowestOffence 21 rfl) 2 i rfl rfl (by omega) (by decide) ?_
            refine jr_icmp_le 39 CC (jd ddX5_lowestOffence 22 rfl) (by decide) (fun c6 => ?_) (fun c6 => ?_)
            · refine jr_iinc [(2, .int (nI (i + 1))), (3, .int (f0 i)), (0, .ref g0), (1, .ref h0)] CC (jd ddX5_lowestOffence 25 rfl) 3 rfl (nI_1 _) (by decide) rfl ?_
              refine jr_goto 2 CC (jd ddX5_lowestOffence 26 rfl) (by decide) ?_
              refine jr_norm [(g0, .inr (4, [.ref g1, .ref g2])), (g1, .inl (t 0, 49, .inl fl)), (g2, .inl (t 0, 49, .inl ce)), (h0, .inr (0, [.ref h1, .int tr, .int wa, .int (nI k)])), (h1, .inl (t 1, 2, .inr (.inr (.inr (.inr (jr2 h2 h3)))))), (h2, .inl (t 0, 49, .inl f0)), (h3, .inl (t 0, 49, .inl f1))] [] 2 0 0 rfl rfl rfl rfl rfl ?_
              refine jr_lv [2, 3, 0] [(0, .ref g0), (1, .ref h0), (2, .int (nI (i + 1)))] rfl ?_
              exact ih2 (i + 1) (by omega) (by rw [hq, show k - i = (k - (i + 1)) + 1 by omega]; simp [jlow, c2, c4, c5, c6]) (by omega)
            · refine jr_iload_n CC (jd ddX5_lowestOffence 23 rfl) 3 rfl ?_
              exact jr_iret CC MM (jd ddX5_lowestOffence 24 rfl) rfl (by decide) (by decide) ⟨by rw [hq, show k - i = (k - i - 1) + 1 by omega]; simp [jlow, c2, c4, c5, c6], rfl⟩
  refine jr_norm [(g0, .inr (4, [.ref g1, .ref g2])), (g1, .inl (t 0, 49, .inl fl)), (g2, .inl (t 0, 49, .inl ce)), (h0, .inr (0, [.ref h1, .int tr, .int wa, .int (nI k)])), (h1, .inl (t 1, 2, .inr (.inr (.inr (.inr (jr2 h2 h3)))))), (h2, .inl (t 0, 49, .inl f0)), (h3, .inl (t 0, 49, .inl f1))] [] 2 0 0 rfl rfl rfl rfl rfl ?_
  refine jr_lv [1, 2, 0] [(0, .ref g0), (1, .ref h0), (2, .int (nI 0))] rfl ?_
  exact hL1 (k - 0 + 1) 0 (Nat.zero_le _) rfl (Nat.lt_succ_self _)
set_option maxHeartbeats 8000000 in
set_option maxRecDepth 100000 in
theorem k_X6_beginAnew (l : Launch) (t : Nat → ClassId) (hfl : l.stackTraces = false) (x2 : Nat) (M : Nat → Int32) (ca : Nat) (cg : Option Nat) : jKx l t yX6_beginAnew (Cond.code yX6_beginAnew cX6_beginAnew 1 none :: jWS) { frames := 0, cells := 0, slots := 0, locals := 0 } [.ref x2] [(x2, .inr (5, jmem M ca cg))] (fun vv uu => (vv = none ∧ uu = [(x2, .inr (5, jmem (upd (upd (upd (upd (upd M 3 1) 1 0) 7 0) 9 0) 10 (-1)) ca none))])) (fun _ _ => False) := by
  refine jK_of hfl (by decide +kernel) (Nat.le_of_ble_eq_true rfl) ?_
  intro p e s m args below meth c D A Q CC MM
  refine jr_norm0 [(0, .ref x2)] rfl ?_
  refine jr_aload_n CC (jd ddX6_beginAnew 0 rfl) 0 rfl ?_
  refine jr_iconst (v := 1) CC (jd ddX6_beginAnew 1 rfl) (by decide) ?_
  refine jr_put CC (jd ddX6_beginAnew 2 rfl) (jf_X6_28 CC) 0 rfl rfl rfl (Nat.le_of_ble_eq_true rfl) ?_
  refine jr_ws [(x2, .inr (5, jmem (upd M 3 1) ca cg))] rfl ?_
  refine jr_aload_n CC (jd ddX6_beginAnew 3 rfl) 0 rfl ?_
  refine jr_null CC (jd ddX6_beginAnew 4 rfl) ?_
  refine jr_put CC (jd ddX6_beginAnew 5 rfl) (jf_X6_32 CC) 0 rfl rfl rfl (Nat.le_of_ble_eq_true rfl) ?_
  refine jr_ws [(x2, .inr (5, jmem (upd M 3 1) ca none))] rfl ?_
  refine jr_aload_n CC (jd ddX6_beginAnew 6 rfl) 0 rfl ?_
  refine jr_iconst (v := 0) CC (jd ddX6_beginAnew 7 rfl) (by decide) ?_
  refine jr_put CC (jd ddX6_beginAnew 8 rfl) (jf_X6_36 CC) 0 rfl rfl rfl (Nat.le_of_ble_eq_true rfl) ?_
  refine jr_ws [(x2, .inr (5, jmem (upd (upd M 3 1) 1 0) ca none))] rfl ?_
  refine jr_aload_n CC (jd ddX6_beginAnew 9 rfl) 0 rfl ?_
  refine jr_pc (pc' := 16) rfl ?_
  refine jr_iconst (v := 0) CC (jd ddX6_beginAnew 10 rfl) (by decide) ?_
  refine jr_put CC (jd ddX6_beginAnew 11 rfl) (jf_X6_39 CC) 0 rfl rfl rfl (Nat.le_of_ble_eq_true rfl) ?_
  refine jr_ws [(x2, .inr (5, jmem (upd (upd (upd M 3 1) 1 0) 7 0) ca none))] rfl ?_
  refine jr_aload_n CC (jd ddX6_beginAnew 12 rfl) 0 rfl ?_
  refine jr_iconst (v := 0) CC (jd ddX6_beginAnew 13 rfl) (by decide) ?_
  refine jr_put CC (jd ddX6_beginAnew 14 rfl) (jf_X6_42 CC) 0 rfl rfl rfl (Nat.le_of_ble_eq_true rfl) ?_
  refine jr_ws [(x2, .inr (5, jmem (upd (upd (upd (upd M 3 1) 1 0) 7 0) 9 0) ca none))] rfl ?_
  refine jr_aload_n CC (jd ddX6_beginAnew 15 rfl) 0 rfl ?_
  refine jr_iconst (v := (-1)) CC (jd ddX6_beginAnew 16 rfl) (by decide) ?_
  refine jr_put CC (jd ddX6_beginAnew 17 rfl) (jf_X6_24 CC) 0 rfl rfl rfl (Nat.le_of_ble_eq_true rfl) ?_
  refine jr_ws [(x2, .inr (5, jmem (upd (upd (upd (upd (upd M 3 1) 1 0) 7 0) 9 0) 10 (-1)) ca none))] rfl ?_
  exact jr_vret CC MM (jd ddX6_beginAnew 18 rfl) rfl (by decide) (by decide) ⟨rfl, rfl⟩
set_option maxHeartbeats 8000000 in
set_option maxRecDepth 100000 in
theorem k_X6_mayTrigger (l : Launch) (t : Nat → ClassId) (hfl : l.stackTraces = false) (x2 : Nat) (M : Nat → Int32) (ca : Nat) (nr : Int32) : jKx l t yX6_mayTrigger (Cond.code yX6_mayTrigger cX6_mayTrigger 3 (some .boolean) :: jWS) { frames := 0, cells := 0, slots := 0, locals := 0 } [.ref x2, .int nr] [(x2, .inr (5, jmem M ca none))] (fun vv uu => (vv = some (.int (mayT M nr)) ∧ uu = [(x2, .inr (5, jmem M ca none))])) (fun _ _ => False) := by
  refine jK_of hfl (by decide +kernel) (Nat.le_of_ble_eq_true rfl) ?_
  intro p e s m args below meth c D A Q CC MM
  refine jr_norm0 [(0, .ref x2), (1, .int nr)] rfl ?_
  have hJ2 : ∀ v1 : Int32, hO M nr = v1 → J p l e { frames := 0, cells := 0, slots := 0, locals := 0 } s m args below meth c D A 3 Q [(x2, .inr (5, jmem M ca none))] [(0, .ref x2), (1, .int nr)] 25 [.int v1] 0 0 := by
    intro v1 e3
    have bv1 : v1 = 0 ∨ v1 = 1 := e3 ▸ (hO01 _ _)
    refine jr_istore_n 2 [(2, .int v1), (0, .ref x2), (1, .int nr)] CC (jd ddX6_mayTrigger 13 rfl) rfl (by decide) rfl ?_
    refine jr_aload_n CC (jd ddX6_mayTrigger 14 rfl) 1 rfl ?_
    refine jr_get (v := .int (M 3)) CC (jd ddX6_mayTrigger 15 rfl) (jf_X6_28 CC) 0 rfl rfl ?_
    refine jr_if_eq 65 CC (jd ddX6_mayTrigger 16 rfl) (by decide) (fun c4 => ?_) (fun c4 => ?_)
    · refine jr_iconst (v := 0) CC (jd ddX6_mayTrigger 32 rfl) (by decide) ?_
      exact jr_zret rfl CC MM (jd ddX6_mayTrigger 33 rfl) rfl (by decide) (by decide) ⟨by simp [mayT, e3, c4], rfl⟩
    · refine jr_aload_n CC (jd ddX6_mayTrigger 17 rfl) 1 rfl ?_
      refine jr_get (v := .null) CC (jd ddX6_mayTrigger 18 rfl) (jf_X6_32 CC) 0 rfl rfl ?_
      refine jr_ifnonnullN CC (jd ddX6_mayTrigger 19 rfl) ?_
      refine jr_aload_n CC (jd ddX6_mayTrigger 20 rfl) 1 rfl ?_
      refine jr_get (v := .int (M 1)) CC (jd ddX6_mayTrigger 21 rfl) (jf_X6_36 CC) 0 rfl rfl ?_
      refine jr_bipush (v := 8) CC (jd ddX6_mayTrigger 22 rfl) (by decide) ?_
      refine jr_pc (pc' := 46) rfl ?_
      refine jr_icmp_ge 65 CC (jd ddX6_mayTrigger 23 rfl) (by decide) (fun c5 => ?_) (fun c5 => ?_)
      · refine jr_iconst (v := 0) CC (jd ddX6_mayTrigger 32 rfl) (by decide) ?_
        exact jr_zret rfl CC MM (jd ddX6_mayTrigger 33 rfl) rfl (by decide) (by decide) ⟨by simp [mayT, e3, c4, c5], rfl⟩
      · refine jr_iload_n CC (jd ddX6_mayTrigger 24 rfl) 2 rfl ?_
        refine jr_aload_n CC (jd ddX6_mayTrigger 25 rfl) 1 rfl ?_
        refine jr_get (v := .int (M 4)) CC (jd ddX6_mayTrigger 26 rfl) (jf_X6_17 CC) 0 rfl rfl ?_
        refine jr_icmp_lt 65 CC (jd ddX6_mayTrigger 27 rfl) (by decide) (fun c6 => ?_) (fun c6 => ?_)
        · refine jr_iconst (v := 0) CC (jd ddX6_mayTrigger 32 rfl) (by decide) ?_
          exact jr_zret rfl CC MM (jd ddX6_mayTrigger 33 rfl) rfl (by decide) (by decide) ⟨by simp [mayT, e3, c4, c5, c6], rfl⟩
        · refine jr_iload_n CC (jd ddX6_mayTrigger 28 rfl) 0 rfl ?_
          refine jr_if_ne 65 CC (jd ddX6_mayTrigger 29 rfl) (by decide) (fun c7 => ?_) (fun c7 => ?_)
          · refine jr_iconst (v := 0) CC (jd ddX6_mayTrigger 32 rfl) (by decide) ?_
            exact jr_zret rfl CC MM (jd ddX6_mayTrigger 33 rfl) rfl (by decide) (by decide) ⟨by simp [mayT, e3, c4, c5, c6, c7], rfl⟩
          · refine jr_iconst (v := 1) CC (jd ddX6_mayTrigger 30 rfl) (by decide) ?_
            refine jr_goto 66 CC (jd ddX6_mayTrigger 31 rfl) (by decide) ?_
            exact jr_zret rfl CC MM (jd ddX6_mayTrigger 33 rfl) rfl (by decide) (by decide) ⟨by simp [mayT, e3, c4, c5, c6, c7], rfl⟩
  refine jr_norm [(x2, .inr (5, jmem M ca none))] [] 0 0 0 rfl rfl rfl rfl rfl ?_
  refine jr_aload_n CC (jd ddX6_mayTrigger 0 rfl) 0 rfl ?_
  refine jr_get (v := .int (M 7)) CC (jd ddX6_mayTrigger 1 rfl) (jf_X6_39 CC) 0 rfl rfl ?_
  refine jr_if_eq 24 CC (jd ddX6_mayTrigger 2 rfl) (by decide) (fun c8 => ?_) (fun c8 => ?_)
  · refine jr_iconst (v := 0) CC (jd ddX6_mayTrigger 12 rfl) (by decide) ?_
    exact hJ2 _ (by first | (simp [hO, c8]; done))
  · refine jr_iload_n CC (jd ddX6_mayTrigger 3 rfl) 1 rfl ?_
    refine jr_aload_n CC (jd ddX6_mayTrigger 4 rfl) 0 rfl ?_
    refine jr_get (v := .int (M 8)) CC (jd ddX6_mayTrigger 5 rfl) (jf_X6_66 CC) 0 rfl rfl ?_
    refine jr_isub CC (jd ddX6_mayTrigger 6 rfl) ?_
    refine jr_aload_n CC (jd ddX6_mayTrigger 7 rfl) 0 rfl ?_
    refine jr_get (v := .int (M 6)) CC (jd ddX6_mayTrigger 8 rfl) (jf_X6_69 CC) 0 rfl rfl ?_
    refine jr_icmp_gt 24 CC (jd ddX6_mayTrigger 9 rfl) (by decide) (fun c9 => ?_) (fun c9 => ?_)
    · refine jr_pc (pc' := 24) rfl ?_
      refine jr_iconst (v := 0) CC (jd ddX6_mayTrigger 12 rfl) (by decide) ?_
      exact hJ2 _ (by first | (simp [hO, c8, c9]; done))
    · refine jr_pc (pc' := 20) rfl ?_
      refine jr_iconst (v := 1) CC (jd ddX6_mayTrigger 10 rfl) (by decide) ?_
      refine jr_goto 25 CC (jd ddX6_mayTrigger 11 rfl) (by decide) ?_
      exact hJ2 _ (by first | (simp [hO, c8, c9]; done))
set_option maxHeartbeats 8000000 in
set_option maxRecDepth 100000 in
theorem k_X6_mayTrigger_c (l : Launch) (t : Nat → ClassId) (hfl : l.stackTraces = false) (x2 : Nat) (M : Nat → Int32) (ca : Nat) (g : Nat) (nr : Int32) : jKx l t yX6_mayTrigger (Cond.code yX6_mayTrigger cX6_mayTrigger 3 (some .boolean) :: jWS) { frames := 0, cells := 0, slots := 0, locals := 0 } [.ref x2, .int nr] [(x2, .inr (5, jmem M ca (some g)))] (fun vv uu => (vv = some (.int 0) ∧ uu = [(x2, .inr (5, jmem M ca (some g)))])) (fun _ _ => False) := by
  refine jK_of hfl (by decide +kernel) (Nat.le_of_ble_eq_true rfl) ?_
  intro p e s m args below meth c D A Q CC MM
  refine jr_norm0 [(0, .ref x2), (1, .int nr)] rfl ?_
  have hJ2 : ∀ v1 : Int32, hO M nr = v1 → J p l e { frames := 0, cells := 0, slots := 0, locals := 0 } s m args below meth c D A 3 Q [(x2, .inr (5, jmem M ca (some g)))] [(0, .ref x2), (1, .int nr)] 25 [.int v1] 0 0 := by
    intro v1 e3
    have bv1 : v1 = 0 ∨ v1 = 1 := e3 ▸ (hO01 _ _)
    refine jr_istore_n 2 [(2, .int v1), (0, .ref x2), (1, .int nr)] CC (jd ddX6_mayTrigger 13 rfl) rfl (by decide) rfl ?_
    refine jr_aload_n CC (jd ddX6_mayTrigger 14 rfl) 1 rfl ?_
    refine jr_get (v := .int (M 3)) CC (jd ddX6_mayTrigger 15 rfl) (jf_X6_28 CC) 0 rfl rfl ?_
    refine jr_if_eq 65 CC (jd ddX6_mayTrigger 16 rfl) (by decide) (fun c4 => ?_) (fun c4 => ?_)
    · refine jr_iconst (v := 0) CC (jd ddX6_mayTrigger 32 rfl) (by decide) ?_
      exact jr_zret rfl CC MM (jd ddX6_mayTrigger 33 rfl) rfl (by decide) (by decide) ⟨rfl, rfl⟩
    · refine jr_aload_n CC (jd ddX6_mayTrigger 17 rfl) 1 rfl ?_
      refine jr_get (v := .ref g) CC (jd ddX6_mayTrigger 18 rfl) (jf_X6_32 CC) 0 rfl rfl ?_
      refine jr_ifnonnull 65 CC (jd ddX6_mayTrigger 19 rfl) (by decide) ?_
      refine jr_iconst (v := 0) CC (jd ddX6_mayTrigger 32 rfl) (by decide) ?_
      exact jr_zret rfl CC MM (jd ddX6_mayTrigger 33 rfl) rfl (by decide) (by decide) ⟨rfl, rfl⟩
  refine jr_norm [(x2, .inr (5, jmem M ca (some g)))] [] 0 0 0 rfl rfl rfl rfl rfl ?_
  refine jr_aload_n CC (jd ddX6_mayTrigger 0 rfl) 0 rfl ?_
  refine jr_get (v := .int (M 7)) CC (jd ddX6_mayTrigger 1 rfl) (jf_X6_39 CC) 0 rfl rfl ?_
  refine jr_if_eq 24 CC (jd ddX6_mayTrigger 2 rfl) (by decide) (fun c5 => ?_) (fun c5 => ?_)
  · refine jr_iconst (v := 0) CC (jd ddX6_mayTrigger 12 rfl) (by decide) ?_
    exact hJ2 _ (by first | (simp [hO, c5]; done))
  · refine jr_iload_n CC (jd ddX6_mayTrigger 3 rfl) 1 rfl ?_
    refine jr_aload_n CC (jd ddX6_mayTrigger 4 rfl) 0 rfl ?_
    refine jr_get (v := .int (M 8)) CC (jd ddX6_mayTrigger 5 rfl) (jf_X6_66 CC) 0 rfl rfl ?_
    refine jr_isub CC (jd ddX6_mayTrigger 6 rfl) ?_
    refine jr_aload_n CC (jd ddX6_mayTrigger 7 rfl) 0 rfl ?_
    refine jr_get (v := .int (M 6)) CC (jd ddX6_mayTrigger 8 rfl) (jf_X6_69 CC) 0 rfl rfl ?_
    refine jr_icmp_gt 24 CC (jd ddX6_mayTrigger 9 rfl) (by decide) (fun c6 => ?_) (fun c6 => ?_)
    · refine jr_pc (pc' := 24) rfl ?_
      refine jr_iconst (v := 0) CC (jd ddX6_mayTrigger 12 rfl) (by decide) ?_
      exact hJ2 _ (by first | (simp [hO, c5, c6]; done))
    · refine jr_pc (pc' := 20) rfl ?_
      refine jr_iconst (v := 1) CC (jd ddX6_mayTrigger 10 rfl) (by decide) ?_
      refine jr_goto 25 CC (jd ddX6_mayTrigger 11 rfl) (by decide) ?_
      exact hJ2 _ (by first | (simp [hO, c5, c6]; done))
set_option maxHeartbeats 8000000 in
set_option maxRecDepth 100000 in
theorem k_X6_startCatching (l : Launch) (t : Nat → ClassId) (hfl : l.stackTraces = false) (x2 : Nat) (M : Nat → Int32) (ca : Nat) (y0 : Nat) (y1 : Nat) (y2 : Nat) (y3 : Nat) (n : Nat) (u0 : Nat → Int32) (u1 : Nat → Int32) (ad : Nat → Nat) (K : Nat → JCap) (r : Nat) (P : Nat) (hM1 : M 1 = nI r) (hr : r < 8) (hM4 : M 4 = nI P) (hP : P ≤ 16) (hPn : P ≤ n) (hn : n < 1000000) : jKx l t yX6_startCatching (Cond.code yX6_startCatching cX6_startCatching 3 none :: jWS) { frames := 1, cells := 0, slots := 0, locals := 22 } [.ref x2, .ref y0] ([(x2, .inr (5, jmem M ca none)), (ca, .inl (t 2, 8, .inr (.inr (.inr (.inr (jcaps ad)))))), (y0, .inr (3, [.ref y1, .int (nI n)])), (y1, .inl (t 1, 2, .inr (.inr (.inr (.inr (jr2 y2 y3)))))), (y2, .inl (t 0, 16, .inl u0)), (y3, .inl (t 0, 16, .inl u1))] ++ jpool t ad K) (fun vv uu => (vv = none ∧ uu = ([(x2, .inr (5, jmem (upd (upd M 7 1) 8 (nI n)) ca (some (ad (4 * r))))), (ca, .inl (t 2, 8, .inr (.inr (.inr (.inr (jcaps ad)))))), (y0, .inr (3, [.ref y1, .int (nI n)])), (y1, .inl (t 1, 2, .inr (.inr (.inr (.inr (jr2 y2 y3)))))), (y2, .inl (t 0, 16, .inl u0)), (y3, .inl (t 0, 16, .inl u1))] ++ jpool t ad (upK K r (nI n, M 4 + 1 + M 5, nI P, jcp n P P u0 (K r).2.2.2.1, jcp n P P u1 (K r).2.2.2.2))))) (fun _ _ => False) := by
  refine jK_of hfl (by decide +kernel) (Nat.le_of_ble_eq_true rfl) ?_
  intro p e s m args below meth c D A Q CC MM
  refine jr_norm0 [(0, .ref x2), (1, .ref y0)] rfl ?_
  refine jr_aload_n CC (jd ddX6_startCatching 0 rfl) 0 rfl ?_
  refine jr_aload_n CC (jd ddX6_startCatching 1 rfl) 0 rfl ?_
  refine jr_get (v := .ref ca) CC (jd ddX6_startCatching 2 rfl) (jf_X6_11 CC) 0 rfl rfl ?_
  refine jr_aload_n CC (jd ddX6_startCatching 3 rfl) 0 rfl ?_
  refine jr_get (v := .int (M 1)) CC (jd ddX6_startCatching 4 rfl) (jf_X6_36 CC) 0 rfl rfl ?_
  refine jr_aldq (v := .ref (ad (4 * r))) CC (jd ddX6_startCatching 5 rfl) 1 r rfl hM1 hr (by decide) rfl ?_
  refine jr_put CC (jd ddX6_startCatching 6 rfl) (jf_X6_32 CC) 0 rfl rfl rfl (Nat.le_of_ble_eq_true rfl) ?_
  refine jr_ws ([(x2, .inr (5, jmem M ca (some (ad (4 * r))))), (ca, .inl (t 2, 8, .inr (.inr (.inr (.inr (jcaps ad)))))), (y0, .inr (3, [.ref y1, .int (nI n)])), (y1, .inl (t 1, 2, .inr (.inr (.inr (.inr (jr2 y2 y3)))))), (y2, .inl (t 0, 16, .inl u0)), (y3, .inl (t 0, 16, .inl u1))] ++ jpool t ad K) rfl ?_
  refine jr_focus [(x2, .inr (5, jmem M ca (some (ad (4 * r))))), (ca, .inl (t 2, 8, .inr (.inr (.inr (.inr (jcaps ad)))))), (y0, .inr (3, [.ref y1, .int (nI n)])), (y1, .inl (t 1, 2, .inr (.inr (.inr (.inr (jr2 y2 y3)))))), (y2, .inl (t 0, 16, .inl u0)), (y3, .inl (t 0, 16, .inl u1))] r hr ?_
  refine jr_ws ([(x2, .inr (5, jmem M ca (some (ad (4 * r))))), (ca, .inl (t 2, 8, .inr (.inr (.inr (.inr (jcaps ad)))))), (y0, .inr (3, [.ref y1, .int (nI n)])), (y1, .inl (t 1, 2, .inr (.inr (.inr (.inr (jr2 y2 y3)))))), (y2, .inl (t 0, 16, .inl u0)), (y3, .inl (t 0, 16, .inl u1)), ((ad (4 * r)), .inr (0, [.ref (ad (4 * r + 1)), .int ((K r).1), .int ((K r).2.1), .int ((K r).2.2.1)])), ((ad (4 * r + 1)), .inl (t 1, 2, .inr (.inr (.inr (.inr (jr2 (ad (4 * r + 2)) (ad (4 * r + 3)))))))), ((ad (4 * r + 2)), .inl (t 0, 49, .inl ((K r).2.2.2.1))), ((ad (4 * r + 3)), .inl (t 0, 49, .inl ((K r).2.2.2.2)))] ++ jpoolx t ad K r) rfl ?_
  refine jr_aload_n CC (jd ddX6_startCatching 7 rfl) 0 rfl ?_
  refine jr_get (v := .ref (ad (4 * r))) CC (jd ddX6_startCatching 8 rfl) (jf_X6_32 CC) 0 rfl rfl ?_
  refine jr_aload_n CC (jd ddX6_startCatching 9 rfl) 1 rfl ?_
  refine jr_pc (pc' := 18) rfl ?_
  refine jr_get (v := .int (nI n)) CC (jd ddX6_startCatching 10 rfl) (jf_X6_45 CC) 2 rfl rfl ?_
  refine jr_aload_n CC (jd ddX6_startCatching 11 rfl) 0 rfl ?_
  refine jr_get (v := .int (M 4)) CC (jd ddX6_startCatching 12 rfl) (jf_X6_17 CC) 0 rfl rfl ?_
  refine jr_iconst (v := 1) CC (jd ddX6_startCatching 13 rfl) (by decide) ?_
  refine jr_iadd CC (jd ddX6_startCatching 14 rfl) ?_
  refine jr_aload_n CC (jd ddX6_startCatching 15 rfl) 0 rfl ?_
  refine jr_get (v := .int (M 5)) CC (jd ddX6_startCatching 16 rfl) (jf_X6_21 CC) 0 rfl rfl ?_
  refine jr_iadd CC (jd ddX6_startCatching 17 rfl) ?_
  refine jr_callV (q0 := 6) (rest := []) [.int (nI n), .int (((M 4) + 1) + (M 5))] CC (jd ddX6_startCatching 18 rfl) (jy_X6_72 CC) (k_X0_begin l t hfl (ad (4 * r)) (ad (4 * r + 1)) ((K r).1) ((K r).2.1) ((K r).2.2.1) (nI n) (((M 4) + 1) + (M 5))) [6] rfl (by decide) rfl rfl rfl rfl (by decide) (Nat.le_of_ble_eq_true rfl) (by rintro v u h; rcases h with ⟨rfl, rfl⟩ <;> rfl) (fun _ _ h => h.elim) (fun _ _ h => h.elim) (fun v u h => ?_)
  rcases h with ⟨rfl, rfl⟩
  refine jr_ws (jput ([(x2, .inr (5, jmem M ca (some (ad (4 * r))))), (ca, .inl (t 2, 8, .inr (.inr (.inr (.inr (jcaps ad)))))), (y0, .inr (3, [.ref y1, .int (nI n)])), (y1, .inl (t 1, 2, .inr (.inr (.inr (.inr (jr2 y2 y3)))))), (y2, .inl (t 0, 16, .inl u0)), (y3, .inl (t 0, 16, .inl u1)), ((ad (4 * r)), .inr (0, [.ref (ad (4 * r + 1)), .int ((K r).1), .int ((K r).2.1), .int ((K r).2.2.1)])), ((ad (4 * r + 1)), .inl (t 1, 2, .inr (.inr (.inr (.inr (jr2 (ad (4 * r + 2)) (ad (4 * r + 3)))))))), ((ad (4 * r + 2)), .inl (t 0, 49, .inl ((K r).2.2.2.1))), ((ad (4 * r + 3)), .inl (t 0, 49, .inl ((K r).2.2.2.2)))] ++ jpoolx t ad K r) [6] [((ad (4 * r)), .inr (0, [.ref (ad (4 * r + 1)), .int (nI n), .int (((M 4) + 1) + (M 5)), .int 0]))]) (jdrop_nil (by rfl)) ?_
  refine jr_norm ([(x2, .inr (5, jmem M ca (some (ad (4 * r))))), (ca, .inl (t 2, 8, .inr (.inr (.inr (.inr (jcaps ad)))))), (y0, .inr (3, [.ref y1, .int (nI n)])), (y1, .inl (t 1, 2, .inr (.inr (.inr (.inr (jr2 y2 y3)))))), (y2, .inl (t 0, 16, .inl u0)), (y3, .inl (t 0, 16, .inl u1)), ((ad (4 * r)), .inr (0, [.ref (ad (4 * r + 1)), .int (nI n), .int (((M 4) + 1) + (M 5)), .int 0])), ((ad (4 * r + 1)), .inl (t 1, 2, .inr (.inr (.inr (.inr (jr2 (ad (4 * r + 2)) (ad (4 * r + 3)))))))), ((ad (4 * r + 2)), .inl (t 0, 49, .inl ((K r).2.2.2.1))), ((ad (4 * r + 3)), .inl (t 0, 49, .inl ((K r).2.2.2.2)))] ++ jpoolx t ad K r) [] 35 0 0 rfl rfl rfl rfl rfl ?_
  refine jr_aload_n CC (jd ddX6_startCatching 19 rfl) 0 rfl ?_
  refine jr_get (v := .int (M 4)) CC (jd ddX6_startCatching 20 rfl) (jf_X6_17 CC) 0 rfl rfl ?_
  refine jr_st [.int (nI P)] (by rw [hM4]) ?_
  refine jr_istore_n 2 [(2, .int (nI P)), (0, .ref x2), (1, .ref y0)] CC (jd ddX6_startCatching 21 rfl) rfl (by decide) rfl ?_
  have hL1 : ∀ (d9 : Nat) (q : Nat) (hq : q ≤ P), P - q < d9 → J p l e { frames := 1, cells := 0, slots := 0, locals := 22 } s m args below meth c D A 3 Q ([(x2, .inr (5, jmem M ca (some (ad (4 * r))))), (ca, .inl (t 2, 8, .inr (.inr (.inr (.inr (jcaps ad)))))), (y0, .inr (3, [.ref y1, .int (nI n)])), (y1, .inl (t 1, 2, .inr (.inr (.inr (.inr (jr2 y2 y3)))))), (y2, .inl (t 0, 16, .inl u0)), (y3, .inl (t 0, 16, .inl u1)), ((ad (4 * r)), .inr (0, [.ref (ad (4 * r + 1)), .int (nI n), .int (((M 4) + 1) + (M 5)), .int (nI q)])), ((ad (4 * r + 1)), .inl (t 1, 2, .inr (.inr (.inr (.inr (jr2 (ad (4 * r + 2)) (ad (4 * r + 3)))))))), ((ad (4 * r + 2)), .inl (t 0, 49, .inl (jcp n P q u0 (K r).2.2.2.1))), ((ad (4 * r + 3)), .inl (t 0, 49, .inl (jcp n P q u1 (K r).2.2.2.2)))] ++ jpoolx t ad K r) [(0, .ref x2), (1, .ref y0), (2, .int (nI (P - q)))] 40 [] 0 0 := by
    intro d9
    induction d9 with
    | zero => intro q hq hmu; exact absurd hmu (Nat.not_lt_zero _)
    | succ d9 ih40 =>
      intro q hq hmu
      refine jr_iload_n CC (jd ddX6_startCatching 22 rfl) 2 rfl ?_
      refine jr_iconst (v := 1) CC (jd ddX6_startCatching 23 rfl) (by decide) ?_
      refine jr_icmp_lt 70 CC (jd ddX6_startCatching 24 rfl) (by decide) (fun c2 => ?_) (fun c2 => ?_)
      · have n2 := jlt_of (a := (P - q)) (b := 1) c2 (by omega) (by omega)
        refine jr_aload_n CC (jd ddX6_startCatching 38 rfl) 0 rfl ?_
        refine jr_iconst (v := 1) CC (jd ddX6_startCatching 39 rfl) (by decide) ?_
        refine jr_put CC (jd ddX6_startCatching 40 rfl) (jf_X6_39 CC) 0 rfl rfl rfl (Nat.le_of_ble_eq_true rfl) ?_
        refine jr_ws ([(x2, .inr (5, jmem (upd M 7 1) ca (some (ad (4 * r))))), (ca, .inl (t 2, 8, .inr (.inr (.inr (.inr (jcaps ad)))))), (y0, .inr (3, [.ref y1, .int (nI n)])), (y1, .inl (t 1, 2, .inr (.inr (.inr (.inr (jr2 y2 y3)))))), (y2, .inl (t 0, 16, .inl u0)), (y3, .inl (t 0, 16, .inl u1)), ((ad (4 * r)), .inr (0, [.ref (ad (4 * r + 1)), .int (nI n), .int (((M 4) + 1) + (M 5)), .int (nI q)])), ((ad (4 * r + 1)), .inl (t 1, 2, .inr (.inr (.inr (.inr (jr2 (ad (4 * r + 2)) (ad (4 * r + 3)))))))), ((ad (4 * r + 2)), .inl (t 0, 49, .inl (jcp n P q u0 (K r).2.2.2.1))), ((ad (4 * r + 3)), .inl (t 0, 49, .inl (jcp n P q u1 (K r).2.2.2.2)))] ++ jpoolx t ad K r) rfl ?_
        refine jr_aload_n CC (jd ddX6_startCatching 41 rfl) 0 rfl ?_
        refine jr_aload_n CC (jd ddX6_startCatching 42 rfl) 1 rfl ?_
        refine jr_get (v := .int (nI n)) CC (jd ddX6_startCatching 43 rfl) (jf_X6_45 CC) 2 rfl rfl ?_
        refine jr_put CC (jd ddX6_startCatching 44 rfl) (jf_X6_66 CC) 0 rfl rfl rfl (Nat.le_of_ble_eq_true rfl) ?_
        refine jr_ws ([(x2, .inr (5, jmem (upd (upd M 7 1) 8 (nI n)) ca (some (ad (4 * r))))), (ca, .inl (t 2, 8, .inr (.inr (.inr (.inr (jcaps ad)))))), (y0, .inr (3, [.ref y1, .int (nI n)])), (y1, .inl (t 1, 2, .inr (.inr (.inr (.inr (jr2 y2 y3)))))), (y2, .inl (t 0, 16, .inl u0)), (y3, .inl (t 0, 16, .inl u1)), ((ad (4 * r)), .inr (0, [.ref (ad (4 * r + 1)), .int (nI n), .int (((M 4) + 1) + (M 5)), .int (nI q)])), ((ad (4 * r + 1)), .inl (t 1, 2, .inr (.inr (.inr (.inr (jr2 (ad (4 * r + 2)) (ad (4 * r + 3)))))))), ((ad (4 * r + 2)), .inl (t 0, 49, .inl (jcp n P q u0 (K r).2.2.2.1))), ((ad (4 * r + 3)), .inl (t 0, 49, .inl (jcp n P q u1 (K r).2.2.2.2)))] ++ jpoolx t ad K r) rfl ?_
        refine jr_pc (pc' := 83) rfl ?_
        refine jr_ws ([(x2, .inr (5, jmem (upd (upd M 7 1) 8 (nI n)) ca (some (ad (4 * r))))), (ca, .inl (t 2, 8, .inr (.inr (.inr (.inr (jcaps ad)))))), (y0, .inr (3, [.ref y1, .int (nI n)])), (y1, .inl (t 1, 2, .inr (.inr (.inr (.inr (jr2 y2 y3)))))), (y2, .inl (t 0, 16, .inl u0)), (y3, .inl (t 0, 16, .inl u1))] ++ (jcapw t ad r ((nI n), (((M 4) + 1) + (M 5)), (nI q), (jcp n P q u0 (K r).2.2.2.1), (jcp n P q u1 (K r).2.2.2.2)) ++ jpoolx t ad K r)) rfl ?_
        refine jr_unfocus [(x2, .inr (5, jmem (upd (upd M 7 1) 8 (nI n)) ca (some (ad (4 * r))))), (ca, .inl (t 2, 8, .inr (.inr (.inr (.inr (jcaps ad)))))), (y0, .inr (3, [.ref y1, .int (nI n)])), (y1, .inl (t 1, 2, .inr (.inr (.inr (.inr (jr2 y2 y3)))))), (y2, .inl (t 0, 16, .inl u0)), (y3, .inl (t 0, 16, .inl u1))] r hr ?_
        exact jr_vret CC MM (jd ddX6_startCatching 45 rfl) rfl (by decide) (by decide) (by have e9 : q = P := (by omega); subst e9; exact ⟨rfl, rfl⟩)
      · have n2 := jlt_not (a := (P - q)) (b := 1) c2 (by omega) (by omega)
        refine jr_aload_n CC (jd ddX6_startCatching 25 rfl) 0 rfl ?_
        refine jr_get (v := .ref (ad (4 * r))) CC (jd ddX6_startCatching 26 rfl) (jf_X6_32 CC) 0 rfl rfl ?_
        refine jr_aload_n CC (jd ddX6_startCatching 27 rfl) 1 rfl ?_
        refine jr_iconst (v := 0) CC (jd ddX6_startCatching 28 rfl) (by decide) ?_
        refine jr_iload_n CC (jd ddX6_startCatching 29 rfl) 2 rfl ?_
        refine jr_callV (q0 := 2) (rest := [.ref (ad (4 * r))]) [.int 0, .int (nI (P - q))] CC (jd ddX6_startCatching 30 rfl) (jy_X6_75 CC) (k_X4_back l t hfl y0 y1 y2 y3 n u0 u1 0 (P - q) (by first | assumption | omega | decide) hn) [2, 3, 4, 5] rfl (by decide) rfl rfl rfl rfl (by decide) (Nat.le_of_ble_eq_true rfl) (by rintro v u h; rcases h with ⟨h0, rfl, rfl⟩ | ⟨h0, rfl, rfl⟩ <;> rfl) (fun _ _ h => h.elim) (fun _ _ h => h.elim) (fun v u h => ?_)
        rcases h with ⟨c3, rfl, rfl⟩ | ⟨c4, rfl, rfl⟩
        · exact absurd c3 (by decide)
        · refine jr_ws (jput ([(x2, .inr (5, jmem M ca (some (ad (4 * r))))), (ca, .inl (t 2, 8, .inr (.inr (.inr (.inr (jcaps ad)))))), (y0, .inr (3, [.ref y1, .int (nI n)])), (y1, .inl (t 1, 2, .inr (.inr (.inr (.inr (jr2 y2 y3)))))), (y2, .inl (t 0, 16, .inl u0)), (y3, .inl (t 0, 16, .inl u1)), ((ad (4 * r)), .inr (0, [.ref (ad (4 * r + 1)), .int (nI n), .int (((M 4) + 1) + (M 5)), .int (nI q)])), ((ad (4 * r + 1)), .inl (t 1, 2, .inr (.inr (.inr (.inr (jr2 (ad (4 * r + 2)) (ad (4 * r + 3)))))))), ((ad (4 * r + 2)), .inl (t 0, 49, .inl (jcp n P q u0 (K r).2.2.2.1))), ((ad (4 * r + 3)), .inl (t 0, 49, .inl (jcp n P q u1 (K r).2.2.2.2)))] ++ jpoolx t ad K r) [2, 3, 4, 5] [(y0, .inr (3, [.ref y1, .int (nI n)])), (y1, .inl (t 1, 2, .inr (.inr (.inr (.inr (jr2 y2 y3)))))), (y2, .inl (t 0, 16, .inl u0)), (y3, .inl (t 0, 16, .inl u1))]) (jdrop_nil (by rfl)) ?_
          refine jr_norm ([(x2, .inr (5, jmem M ca (some (ad (4 * r))))), (ca, .inl (t 2, 8, .inr (.inr (.inr (.inr (jcaps ad)))))), (y0, .inr (3, [.ref y1, .int (nI n)])), (y1, .inl (t 1, 2, .inr (.inr (.inr (.inr (jr2 y2 y3)))))), (y2, .inl (t 0, 16, .inl u0)), (y3, .inl (t 0, 16, .inl u1)), ((ad (4 * r)), .inr (0, [.ref (ad (4 * r + 1)), .int (nI n), .int (((M 4) + 1) + (M 5)), .int (nI q)])), ((ad (4 * r + 1)), .inl (t 1, 2, .inr (.inr (.inr (.inr (jr2 (ad (4 * r + 2)) (ad (4 * r + 3)))))))), ((ad (4 * r + 2)), .inl (t 0, 49, .inl (jcp n P q u0 (K r).2.2.2.1))), ((ad (4 * r + 3)), .inl (t 0, 49, .inl (jcp n P q u1 (K r).2.2.2.2)))] ++ jpoolx t ad K r) [.int (u0 ((n - (P - q)) % 16)), .ref (ad (4 * r))] 55 0 0 rfl rfl rfl rfl rfl ?_
          refine jr_aload_n CC (jd ddX6_startCatching 31 rfl) 1 rfl ?_
          refine jr_iconst (v := 1) CC (jd ddX6_startCatching 32 rfl) (by decide) ?_
          refine jr_iload_n CC (jd ddX6_startCatching 33 rfl) 2 rfl ?_
          refine jr_callV (q0 := 2) (rest := [.int (u0 ((n - (P - q)) % 16)), .ref (ad (4 * r))]) [.int 1, .int (nI (P - q))] CC (jd ddX6_startCatching 34 rfl) (jy_X6_75 CC) (k_X4_back l t hfl y0 y1 y2 y3 n u0 u1 1 (P - q) (by first | assumption | omega | decide) hn) [2, 3, 4, 5] rfl (by decide) rfl rfl rfl rfl (by decide) (Nat.le_of_ble_eq_true rfl) (by rintro v u h; rcases h with ⟨h0, rfl, rfl⟩ | ⟨h0, rfl, rfl⟩ <;> rfl) (fun _ _ h => h.elim) (fun _ _ h => h.elim) (fun v u h => ?_)
          rcases h with ⟨c5, rfl, rfl⟩ | ⟨c6, rfl, rfl⟩
          · refine jr_ws (jput ([(x2, .inr (5, jmem M ca (some (ad (4 * r))))), (ca, .inl (t 2, 8, .inr (.inr (.inr (.inr (jcaps ad)))))), (y0, .inr (3, [.ref y1, .int (nI n)])), (y1, .inl (t 1, 2, .inr (.inr (.inr (.inr (jr2 y2 y3)))))), (y2, .inl (t 0, 16, .inl u0)), (y3, .inl (t 0, 16, .inl u1)), ((ad (4 * r)), .inr (0, [.ref (ad (4 * r + 1)), .int (nI n), .int (((M 4) + 1) + (M 5)), .int (nI q)])), ((ad (4 * r + 1)), .inl (t 1, 2, .inr (.inr (.inr (.inr (jr2 (ad (4 * r + 2)) (ad (4 * r + 3)))))))), ((ad (4 * r + 2)), .inl (t 0, 49, .inl (jcp n P q u0 (K r).2.2.2.1))), ((ad (4 * r + 3)), .inl (t 0, 49, .inl (jcp n P q u1 (K r).2.2.2.2)))] ++ jpoolx t ad K r) [2, 3, 4, 5] [(y0, .inr (3, [.ref y1, .int (nI n)])), (y1, .inl (t 1, 2, .inr (.inr (.inr (.inr (jr2 y2 y3)))))), (y2, .inl (t 0, 16, .inl u0)), (y3, .inl (t 0, 16, .inl u1))]) (jdrop_nil (by rfl)) ?_
            refine jr_norm ([(x2, .inr (5, jmem M ca (some (ad (4 * r))))), (ca, .inl (t 2, 8, .inr (.inr (.inr (.inr (jcaps ad)))))), (y0, .inr (3, [.ref y1, .int (nI n)])), (y1, .inl (t 1, 2, .inr (.inr (.inr (.inr (jr2 y2 y3)))))), (y2, .inl (t 0, 16, .inl u0)), (y3, .inl (t 0, 16, .inl u1)), ((ad (4 * r)), .inr (0, [.ref (ad (4 * r + 1)), .int (nI n), .int (((M 4) + 1) + (M 5)), .int (nI q)])), ((ad (4 * r + 1)), .inl (t 1, 2, .inr (.inr (.inr (.inr (jr2 (ad (4 * r + 2)) (ad (4 * r + 3)))))))), ((ad (4 * r + 2)), .inl (t 0, 49, .inl (jcp n P q u0 (K r).2.2.2.1))), ((ad (4 * r + 3)), .inl (t 0, 49, .inl (jcp n P q u1 (K r).2.2.2.2)))] ++ jpoolx t ad K r) [.int (u1 ((n - (P - q)) % 16)), .int (u0 ((n - (P - q)) % 16)), .ref (ad (4 * r))] 61 0 0 rfl rfl rfl rfl rfl ?_
            refine jr_callV (q0 := 6) (rest := []) [.int (u0 ((n - (P - q)) % 16)), .int (u1 ((n - (P - q)) % 16))] CC (jd ddX6_startCatching 35 rfl) (jy_X6_58 CC) (k_X0_add l t hfl (ad (4 * r)) (ad (4 * r + 1)) (ad (4 * r + 2)) (ad (4 * r + 3)) (nI n) (((M 4) + 1) + (M 5)) q (jcp n P q u0 (K r).2.2.2.1) (jcp n P q u1 (K r).2.2.2.2) (u0 ((n - (P - q)) % 16)) (u1 ((n - (P - q)) % 16)) (by first | assumption | omega | decide)) [6, 7, 8, 9] rfl (by decide) rfl rfl rfl rfl (by decide) (Nat.le_of_ble_eq_true rfl) (by rintro v u h; rcases h with ⟨rfl, rfl⟩ <;> rfl) (fun _ _ h => h.elim) (fun _ _ h => h.elim) (fun v u h => ?_)
            rcases h with ⟨rfl, rfl⟩
            refine jr_ws (jput ([(x2, .inr (5, jmem M ca (some (ad (4 * r))))), (ca, .inl (t 2, 8, .inr (.inr (.inr (.inr (jcaps ad)))))), (y0, .inr (3, [.ref y1, .int (nI n)])), (y1, .inl (t 1, 2, .inr (.inr (.inr (.inr (jr2 y2 y3)))))), (y2, .inl (t 0, 16, .inl u0)), (y3, .inl (t 0, 16, .inl u1)), ((ad (4 * r)), .inr (0, [.ref (ad (4 * r + 1)), .int (nI n), .int (((M 4) + 1) + (M 5)), .int (nI q)])), ((ad (4 * r + 1)), .inl (t 1, 2, .inr (.inr (.inr (.inr (jr2 (ad (4 * r + 2)) (ad (4 * r + 3)))))))), ((ad (4 * r + 2)), .inl (t 0, 49, .inl (jcp n P q u0 (K r).2.2.2.1))), ((ad (4 * r + 3)), .inl (t 0, 49, .inl (jcp n P q u1 (K r).2.2.2.2)))] ++ jpoolx t ad K r) [6, 7, 8, 9] [((ad (4 * r)), .inr (0, [.ref (ad (4 * r + 1)), .int (nI n), .int (((M 4) + 1) + (M 5)), .int (nI (q + 1))])), ((ad (4 * r + 1)), .inl (t 1, 2, .inr (.inr (.inr (.inr (jr2 (ad (4 * r + 2)) (ad (4 * r + 3)))))))), ((ad (4 * r + 2)), .inl (t 0, 49, .inl (upd (jcp n P q u0 (K r).2.2.2.1) q (u0 ((n - (P - q)) % 16))))), ((ad (4 * r + 3)), .inl (t 0, 49, .inl (upd (jcp n P q u1 (K r).2.2.2.2) q (u1 ((n - (P - q)) % 16)))))]) (jdrop_nil (by rfl)) ?_
            refine jr_norm ([(x2, .inr (5, jmem M ca (some (ad (4 * r))))), (ca, .inl (t 2, 8, .inr (.inr (.inr (.inr (jcaps ad)))))), (y0, .inr (3, [.ref y1, .int (nI n)])), (y1, .inl (t 1, 2, .inr (.inr (.inr (.inr (jr2 y2 y3)))))), (y2, .inl (t 0, 16, .inl u0)), (y3, .inl (t 0, 16, .inl u1)), ((ad (4 * r)), .inr (0, [.ref (ad (4 * r + 1)), .int (nI n), .int (((M 4) + 1) + (M 5)), .int (nI (q + 1))])), ((ad (4 * r + 1)), .inl (t 1, 2, .inr (.inr (.inr (.inr (jr2 (ad (4 * r + 2)) (ad (4 * r + 3)))))))), ((ad (4 * r + 2)), .inl (t 0, 49, .inl (upd (jcp n P q u0 (K r).2.2.2.1) q (u0 ((n - (P - q)) % 16))))), ((ad (4 * r + 3)), .inl (t 0, 49, .inl (upd (jcp n P q u1 (K r).2.2.2.2) q (u1 ((n - (P - q)) % 16)))))] ++ jpoolx t ad K r) [] 64 0 0 rfl rfl rfl rfl rfl ?_
            refine jr_iinc [(2, .int (nI (P - (q + 1)))), (0, .ref x2), (1, .ref y0)] CC (jd ddX6_startCatching 36 rfl) 2 rfl (by rw [show P - q = (P - (q + 1)) + 1 by omega]; exact pk_m1 _) (by decide) rfl ?_
            refine jr_goto 40 CC (jd ddX6_startCatching 37 rfl) (by decide) ?_
            refine jr_ws ([(x2, .inr (5, jmem M ca (some (ad (4 * r))))), (ca, .inl (t 2, 8, .inr (.inr (.inr (.inr (jcaps ad)))))), (y0, .inr (3, [.ref y1, .int (nI n)])), (y1, .inl (t 1, 2, .inr (.inr (.inr (.inr (jr2 y2 y3)))))), (y2, .inl (t 0, 16, .inl u0)), (y3, .inl (t 0, 16, .inl u1)), ((ad (4 * r)), .inr (0, [.ref (ad (4 * r + 1)), .int (nI n), .int (((M 4) + 1) + (M 5)), .int (nI (q + 1))])), ((ad (4 * r + 1)), .inl (t 1, 2, .inr (.inr (.inr (.inr (jr2 (ad (4 * r + 2)) (ad (4 * r + 3)))))))), ((ad (4 * r + 2)), .inl (t 0, 49, .inl (jcp n P (q + 1) u0 (K r).2.2.2.1))), ((ad (4 * r + 3)), .inl (t 0, 49, .inl (jcp n P (q + 1) u1 (K r).2.2.2.2)))] ++ jpoolx t ad K r) (by rw [← jcp_s, ← jcp_s]) ?_
            refine jr_norm ([(x2, .inr (5, jmem M ca (some (ad (4 * r))))), (ca, .inl (t 2, 8, .inr (.inr (.inr (.inr (jcaps ad)))))), (y0, .inr (3, [.ref y1, .int (nI n)])), (y1, .inl (t 1, 2, .inr (.inr (.inr (.inr (jr2 y2 y3)))))), (y2, .inl (t 0, 16, .inl u0)), (y3, .inl (t 0, 16, .inl u1)), ((ad (4 * r)), .inr (0, [.ref (ad (4 * r + 1)), .int (nI n), .int (((M 4) + 1) + (M 5)), .int (nI (q + 1))])), ((ad (4 * r + 1)), .inl (t 1, 2, .inr (.inr (.inr (.inr (jr2 (ad (4 * r + 2)) (ad (4 * r + 3)))))))), ((ad (4 * r + 2)), .inl (t 0, 49, .inl (jcp n P (q + 1) u0 (K r).2.2.2.1))), ((ad (4 * r + 3)), .inl (t 0, 49, .inl (jcp n P (q + 1) u1 (K r).2.2.2.2)))] ++ jpoolx t ad K r) [] 40 0 0 rfl rfl rfl rfl rfl ?_
            refine jr_lv [1, 2, 0] [(0, .ref x2), (1, .ref y0), (2, .int (nI (P - (q + 1))))] rfl ?_
            exact ih40 (q + 1) (by omega) (by omega)
          · exact absurd c6 (by decide)
  refine jr_norm ([(x2, .inr (5, jmem M ca (some (ad (4 * r))))), (ca, .inl (t 2, 8, .inr (.inr (.inr (.inr (jcaps ad)))))), (y0, .inr (3, [.ref y1, .int (nI n)])), (y1, .inl (t 1, 2, .inr (.inr (.inr (.inr (jr2 y2 y3)))))), (y2, .inl (t 0, 16, .inl u0)), (y3, .inl (t 0, 16, .inl u1)), ((ad (4 * r)), .inr (0, [.ref (ad (4 * r + 1)), .int (nI n), .int (((M 4) + 1) + (M 5)), .int (nI 0)])), ((ad (4 * r + 1)), .inl (t 1, 2, .inr (.inr (.inr (.inr (jr2 (ad (4 * r + 2)) (ad (4 * r + 3)))))))), ((ad (4 * r + 2)), .inl (t 0, 49, .inl (jcp n P 0 u0 (K r).2.2.2.1))), ((ad (4 * r + 3)), .inl (t 0, 49, .inl (jcp n P 0 u1 (K r).2.2.2.2)))] ++ jpoolx t ad K r) [] 40 0 0 rfl rfl rfl rfl rfl ?_
  refine jr_lv [1, 2, 0] [(0, .ref x2), (1, .ref y0), (2, .int (nI (P - 0)))] rfl ?_
  exact hL1 (P - 0 + 1) 0 (Nat.zero_le _) (Nat.lt_succ_self _)
theorem mayT_r {M : Nat → Int32} {n : Int32} {r : Nat} (h : ¬ mayT M n = 0) (hM1 : M 1 = nI r) (hr : r ≤ 8) : r < 8 := by
  unfold mayT at h
  by_cases h3 : M 3 = 0
  · rw [if_pos h3] at h; exact absurd rfl h
  rw [if_neg h3] at h
  by_cases h8 : 8 ≤ M 1
  · rw [if_pos h8] at h; exact absurd rfl h
  rw [hM1] at h8
  exact jle_not (a := 8) h8 (by decide) (by omega)
theorem mayT_P {M : Nat → Int32} {n P : Nat} (h : ¬ mayT M (nI n) = 0) (hM4 : M 4 = nI P) (hP : P ≤ 16) (hn : n < 1000000) : P ≤ n := by
  unfold mayT at h
  by_cases h3 : M 3 = 0
  · rw [if_pos h3] at h; exact absurd rfl h
  rw [if_neg h3] at h
  by_cases h8 : 8 ≤ M 1
  · rw [if_pos h8] at h; exact absurd rfl h
  rw [if_neg h8] at h
  by_cases h9 : nI n < M 4
  · rw [if_pos h9] at h; exact absurd rfl h
  rw [hM4] at h9
  exact jlt_not h9 (by omega) (by omega)
theorem j_lt {c : Int32} {k : Nat} (n : Nat) (hc : c = nI n) (h : k < n) (hn : n < 2147483648) : nI k < c := by rw [hc]; exact nI_lt h hn
set_option maxHeartbeats 8000000 in
set_option maxRecDepth 100000 in
theorem k_X6_takeSample (l : Launch) (t : Nat → ClassId) (hfl : l.stackTraces = false) (x2 : Nat) (M : Nat → Int32) (ca : Nat) (y0 : Nat) (y1 : Nat) (y2 : Nat) (y3 : Nat) (n : Nat) (u0 : Nat → Int32) (u1 : Nat → Int32) (ad : Nat → Nat) (K : Nat → JCap) (r : Nat) (P : Nat) (fr : Int32) (a : Int32) (b : Int32) (hM1 : M 1 = nI r) (hr8 : r ≤ 8) (hM4 : M 4 = nI P) (hP : P ≤ 16) (hn : n < 1000000) : jKx l t yX6_takeSample (Cond.code yX6_takeSample cX6_takeSample 5 (some .boolean) :: jWS) { frames := 2, cells := 0, slots := 0, locals := 44 } [.ref x2, .int fr, .int a, .int b, .ref y0] ([(x2, .inr (5, jmem M ca none)), (ca, .inl (t 2, 8, .inr (.inr (.inr (.inr (jcaps ad)))))), (y0, .inr (3, [.ref y1, .int (nI n)])), (y1, .inl (t 1, 2, .inr (.inr (.inr (.inr (jr2 y2 y3)))))), (y2, .inl (t 0, 16, .inl u0)), (y3, .inl (t 0, 16, .inl u1))] ++ jpool t ad K) (fun vv uu => ((fr = 0) ∧ vv = some (.int 0) ∧ uu = ([(x2, .inr (5, jmem M ca none)), (ca, .inl (t 2, 8, .inr (.inr (.inr (.inr (jcaps ad)))))), (y0, .inr (3, [.ref y1, .int (nI n)])), (y1, .inl (t 1, 2, .inr (.inr (.inr (.inr (jr2 y2 y3)))))), (y2, .inl (t 0, 16, .inl u0)), (y3, .inl (t 0, 16, .inl u1))] ++ jpool t ad K)) ∨ ((¬ fr = 0) ∧ ((mayT M (nI n)) = 0) ∧ vv = some (.int 0) ∧ uu = ([(x2, .inr (5, jmem M ca none)), (ca, .inl (t 2, 8, .inr (.inr (.inr (.inr (jcaps ad)))))), (y0, .inr (3, [.ref y1, .int (nI n)])), (y1, .inl (t 1, 2, .inr (.inr (.inr (.inr (jr2 y2 y3)))))), (y2, .inl (t 0, 16, .inl u0)), (y3, .inl (t 0, 16, .inl u1))] ++ jpool t ad K)) ∨ ((¬ fr = 0) ∧ (¬ (mayT M (nI n)) = 0) ∧ ((nI (P + 1)) < (M 4 + 1 + M 5)) ∧ vv = some (.int 0) ∧ uu = ([(x2, .inr (5, jmem (upd (upd M 7 1) 8 (nI n)) ca (some (ad (4 * r))))), (ca, .inl (t 2, 8, .inr (.inr (.inr (.inr (jcaps ad)))))), (y0, .inr (3, [.ref y1, .int (nI n)])), (y1, .inl (t 1, 2, .inr (.inr (.inr (.inr (jr2 y2 y3)))))), (y2, .inl (t 0, 16, .inl u0)), (y3, .inl (t 0, 16, .inl u1))] ++ jpool t ad (upK K r ((nI n), (M 4 + 1 + M 5), (nI (P + 1)), (upd (jcp n P P u0 (K r).2.2.2.1) P a), (upd (jcp n P P u1 (K r).2.2.2.2) P b))))) ∨ ((¬ fr = 0) ∧ (¬ (mayT M (nI n)) = 0) ∧ (¬ (nI (P + 1)) < (M 4 + 1 + M 5)) ∧ (((M 1) + 1) < 8) ∧ vv = some (.int 1) ∧ uu = ([(x2, .inr (5, jmem (upd (upd (upd M 7 1) 8 (nI n)) 1 ((M 1) + 1)) ca none)), (ca, .inl (t 2, 8, .inr (.inr (.inr (.inr (jcaps ad)))))), (y0, .inr (3, [.ref y1, .int (nI n)])), (y1, .inl (t 1, 2, .inr (.inr (.inr (.inr (jr2 y2 y3)))))), (y2, .inl (t 0, 16, .inl u0)), (y3, .inl (t 0, 16, .inl u1))] ++ jpool t ad (upK K r ((nI n), (M 4 + 1 + M 5), (nI (P + 1)), (upd (jcp n P P u0 (K r).2.2.2.1) P a), (upd (jcp n P P u1 (K r).2.2.2.2) P b))))) ∨ ((¬ fr = 0) ∧ (¬ (mayT M (nI n)) = 0) ∧ (¬ (nI (P + 1)) < (M 4 + 1 + M 5)) ∧ (¬ ((M 1) + 1) < 8) ∧ vv = some (.int 1) ∧ uu = ([(x2, .inr (5, jmem (upd (upd (upd (upd M 7 1) 8 (nI n)) 1 ((M 1) + 1)) 3 0) ca none)), (ca, .inl (t 2, 8, .inr (.inr (.inr (.inr (jcaps ad)))))), (y0, .inr (3, [.ref y1, .int (nI n)])), (y1, .inl (t 1, 2, .inr (.inr (.inr (.inr (jr2 y2 y3)))))), (y2, .inl (t 0, 16, .inl u0)), (y3, .inl (t 0, 16, .inl u1))] ++ jpool t ad (upK K r ((nI n), (M 4 + 1 + M 5), (nI (P + 1)), (upd (jcp n P P u0 (K r).2.2.2.1) P a), (upd (jcp n P P u1 (K r).2.2.2.2) P b)))))) (fun _ _ => False) := by
  refine jK_of hfl (by decide +kernel) (Nat.le_of_ble_eq_true rfl) ?_
  intro p e s m args below meth c D A Q CC MM
  refine jr_norm0 [(0, .ref x2), (1, .int fr), (2, .int a), (3, .int b), (4, .ref y0)] rfl ?_
  refine jr_iload_n CC (jd ddX6_takeSample 0 rfl) 1 rfl ?_
  refine jr_if_eq 22 CC (jd ddX6_takeSample 1 rfl) (by decide) (fun c1 => ?_) (fun c1 => ?_)
  · refine jr_aload_n CC (jd ddX6_takeSample 10 rfl) 0 rfl ?_
    refine jr_get (v := .null) CC (jd ddX6_takeSample 11 rfl) (jf_X6_32 CC) 0 rfl rfl ?_
    refine jr_ifnonnullN CC (jd ddX6_takeSample 12 rfl) ?_
    refine jr_iconst (v := 0) CC (jd ddX6_takeSample 13 rfl) (by decide) ?_
    exact jr_zret rfl CC MM (jd ddX6_takeSample 14 rfl) rfl (by decide) (by decide) (Or.inl ⟨c1, rfl, rfl⟩)
  · refine jr_aload_n CC (jd ddX6_takeSample 2 rfl) 0 rfl ?_
    refine jr_aload CC (jd ddX6_takeSample 3 rfl) 4 rfl ?_
    refine jr_get (v := .int (nI n)) CC (jd ddX6_takeSample 4 rfl) (jf_X6_45 CC) 2 rfl rfl ?_
    refine jr_callV (q0 := 0) (rest := []) [.int (nI n)] CC (jd ddX6_takeSample 5 rfl) (jy_X6_50 CC) (k_X6_mayTrigger l t hfl x2 M ca (nI n)) [0] rfl (by decide) rfl rfl rfl rfl (by decide) (Nat.le_of_ble_eq_true rfl) (by rintro v u h; rcases h with ⟨rfl, rfl⟩ <;> rfl) (fun _ _ h => h.elim) (fun _ _ h => h.elim) (fun v u h => ?_)
    rcases h with ⟨rfl, rfl⟩
    refine jr_ws (jput ([(x2, .inr (5, jmem M ca none)), (ca, .inl (t 2, 8, .inr (.inr (.inr (.inr (jcaps ad)))))), (y0, .inr (3, [.ref y1, .int (nI n)])), (y1, .inl (t 1, 2, .inr (.inr (.inr (.inr (jr2 y2 y3)))))), (y2, .inl (t 0, 16, .inl u0)), (y3, .inl (t 0, 16, .inl u1))] ++ jpool t ad K) [0] [(x2, .inr (5, jmem M ca none))]) (jdrop_nil (by rfl)) ?_
    refine jr_norm ([(x2, .inr (5, jmem M ca none)), (ca, .inl (t 2, 8, .inr (.inr (.inr (.inr (jcaps ad)))))), (y0, .inr (3, [.ref y1, .int (nI n)])), (y1, .inl (t 1, 2, .inr (.inr (.inr (.inr (jr2 y2 y3)))))), (y2, .inl (t 0, 16, .inl u0)), (y3, .inl (t 0, 16, .inl u1))] ++ jpool t ad K) [.int (mayT M (nI n))] 13 0 0 rfl rfl rfl rfl rfl ?_
    refine jr_if_eq 22 CC (jd ddX6_takeSample 6 rfl) (by decide) (fun c2 => ?_) (fun c2 => ?_)
    · refine jr_aload_n CC (jd ddX6_takeSample 10 rfl) 0 rfl ?_
      refine jr_get (v := .null) CC (jd ddX6_takeSample 11 rfl) (jf_X6_32 CC) 0 rfl rfl ?_
      refine jr_ifnonnullN CC (jd ddX6_takeSample 12 rfl) ?_
      refine jr_iconst (v := 0) CC (jd ddX6_takeSample 13 rfl) (by decide) ?_
      exact jr_zret rfl CC MM (jd ddX6_takeSample 14 rfl) rfl (by decide) (by decide) (Or.inr (Or.inl ⟨c1, c2, rfl, rfl⟩))
    · refine jr_aload_n CC (jd ddX6_takeSample 7 rfl) 0 rfl ?_
      refine jr_aload CC (jd ddX6_takeSample 8 rfl) 4 rfl ?_
      refine jr_norm ([(x2, .inr (5, jmem M ca none)), (ca, .inl (t 2, 8, .inr (.inr (.inr (.inr (jcaps ad)))))), (y0, .inr (3, [.ref y1, .int (nI n)])), (y1, .inl (t 1, 2, .inr (.inr (.inr (.inr (jr2 y2 y3)))))), (y2, .inl (t 0, 16, .inl u0)), (y3, .inl (t 0, 16, .inl u1))] ++ jpool t ad K) [.ref y0, .ref x2] 19 0 0 rfl rfl rfl rfl rfl ?_
      refine jr_callV (q0 := 0) (rest := []) [.ref y0] CC (jd ddX6_takeSample 9 rfl) (jy_X6_54 CC) (k_X6_startCatching l t hfl x2 M ca y0 y1 y2 y3 n u0 u1 ad K r P hM1 (mayT_r c2 hM1 hr8) hM4 hP (mayT_P c2 hM4 hP hn) hn) ([0, 1, 2, 3, 4, 5] ++ (List.range 32).map (fun i => 6 + i)) (jpool_isC 6 rfl (is := [0, 1, 2, 3, 4, 5]) rfl (by decide)) (by decide) rfl rfl rfl rfl (by decide) (Nat.le_of_ble_eq_true rfl) (by rintro v u h; rcases h with ⟨rfl, rfl⟩ <;> exact jpool_same rfl) (fun _ _ h => h.elim) (fun _ _ h => h.elim) (fun v u h => ?_)
      rcases h with ⟨rfl, rfl⟩
      refine jr_ws (jput [(x2, .inr (5, jmem M ca none)), (ca, .inl (t 2, 8, .inr (.inr (.inr (.inr (jcaps ad)))))), (y0, .inr (3, [.ref y1, .int (nI n)])), (y1, .inl (t 1, 2, .inr (.inr (.inr (.inr (jr2 y2 y3)))))), (y2, .inl (t 0, 16, .inl u0)), (y3, .inl (t 0, 16, .inl u1))] [0, 1, 2, 3, 4, 5] [(x2, .inr (5, jmem (upd (upd M 7 1) 8 (nI n)) ca (some (ad (4 * r))))), (ca, .inl (t 2, 8, .inr (.inr (.inr (.inr (jcaps ad)))))), (y0, .inr (3, [.ref y1, .int (nI n)])), (y1, .inl (t 1, 2, .inr (.inr (.inr (.inr (jr2 y2 y3)))))), (y2, .inl (t 0, 16, .inl u0)), (y3, .inl (t 0, 16, .inl u1))] ++ jpool t ad (upK K r (nI n, M 4 + 1 + M 5, nI P, jcp n P P u0 (K r).2.2.2.1, jcp n P P u1 (K r).2.2.2.2))) (jpool_after 6 rfl rfl rfl (by decide)) ?_
      refine jr_norm ([(x2, .inr (5, jmem (upd (upd M 7 1) 8 (nI n)) ca (some (ad (4 * r))))), (ca, .inl (t 2, 8, .inr (.inr (.inr (.inr (jcaps ad)))))), (y0, .inr (3, [.ref y1, .int (nI n)])), (y1, .inl (t 1, 2, .inr (.inr (.inr (.inr (jr2 y2 y3)))))), (y2, .inl (t 0, 16, .inl u0)), (y3, .inl (t 0, 16, .inl u1))] ++ jpool t ad (upK K r (nI n, M 4 + 1 + M 5, nI P, jcp n P P u0 (K r).2.2.2.1, jcp n P P u1 (K r).2.2.2.2))) [] 22 0 0 rfl rfl rfl rfl rfl ?_
      refine jr_aload_n CC (jd ddX6_takeSample 10 rfl) 0 rfl ?_
      refine jr_get (v := .ref (ad (4 * r))) CC (jd ddX6_takeSample 11 rfl) (jf_X6_32 CC) 0 rfl rfl ?_
      refine jr_ifnonnull 31 CC (jd ddX6_takeSample 12 rfl) (by decide) ?_
      have hr := mayT_r c2 hM1 hr8
      refine jr_focus [(x2, .inr (5, jmem (upd (upd M 7 1) 8 (nI n)) ca (some (ad (4 * r))))), (ca, .inl (t 2, 8, .inr (.inr (.inr (.inr (jcaps ad)))))), (y0, .inr (3, [.ref y1, .int (nI n)])), (y1, .inl (t 1, 2, .inr (.inr (.inr (.inr (jr2 y2 y3)))))), (y2, .inl (t 0, 16, .inl u0)), (y3, .inl (t 0, 16, .inl u1))] r hr ?_
      refine jr_ws ([(x2, .inr (5, jmem (upd (upd M 7 1) 8 (nI n)) ca (some (ad (4 * r))))), (ca, .inl (t 2, 8, .inr (.inr (.inr (.inr (jcaps ad)))))), (y0, .inr (3, [.ref y1, .int (nI n)])), (y1, .inl (t 1, 2, .inr (.inr (.inr (.inr (jr2 y2 y3)))))), (y2, .inl (t 0, 16, .inl u0)), (y3, .inl (t 0, 16, .inl u1)), ((ad (4 * r)), .inr (0, [.ref (ad (4 * r + 1)), .int (nI n), .int (M 4 + 1 + M 5), .int (nI P)])), ((ad (4 * r + 1)), .inl (t 1, 2, .inr (.inr (.inr (.inr (jr2 (ad (4 * r + 2)) (ad (4 * r + 3)))))))), ((ad (4 * r + 2)), .inl (t 0, 49, .inl (jcp n P P u0 (K r).2.2.2.1))), ((ad (4 * r + 3)), .inl (t 0, 49, .inl (jcp n P P u1 (K r).2.2.2.2)))] ++ jpoolx t ad (upK K r (nI n, M 4 + 1 + M 5, nI P, jcp n P P u0 (K r).2.2.2.1, jcp n P P u1 (K r).2.2.2.2)) r) (by rw [upK_s]; rfl) ?_
      refine jr_aload_n CC (jd ddX6_takeSample 15 rfl) 0 rfl ?_
      refine jr_get (v := .ref (ad (4 * r))) CC (jd ddX6_takeSample 16 rfl) (jf_X6_32 CC) 0 rfl rfl ?_
      refine jr_iload_n CC (jd ddX6_takeSample 17 rfl) 2 rfl ?_
      refine jr_iload_n CC (jd ddX6_takeSample 18 rfl) 3 rfl ?_
      refine jr_callV (q0 := 6) (rest := []) [.int a, .int b] CC (jd ddX6_takeSample 19 rfl) (jy_X6_58 CC) (k_X0_add l t hfl (ad (4 * r)) (ad (4 * r + 1)) (ad (4 * r + 2)) (ad (4 * r + 3)) (nI n) (M 4 + 1 + M 5) P (jcp n P P u0 (K r).2.2.2.1) (jcp n P P u1 (K r).2.2.2.2) a b (by first | assumption | omega | decide)) [6, 7, 8, 9] rfl (by decide) rfl rfl rfl rfl (by decide) (Nat.le_of_ble_eq_true rfl) (by rintro v u h; rcases h with ⟨rfl, rfl⟩ <;> rfl) (fun _ _ h => h.elim) (fun _ _ h => h.elim) (fun v u h => ?_)
      rcases h with ⟨rfl, rfl⟩
      refine jr_ws (jput ([(x2, .inr (5, jmem (upd (upd M 7 1) 8 (nI n)) ca (some (ad (4 * r))))), (ca, .inl (t 2, 8, .inr (.inr (.inr (.inr (jcaps ad)))))), (y0, .inr (3, [.ref y1, .int (nI n)])), (y1, .inl (t 1, 2, .inr (.inr (.inr (.inr (jr2 y2 y3)))))), (y2, .inl (t 0, 16, .inl u0)), (y3, .inl (t 0, 16, .inl u1)), ((ad (4 * r)), .inr (0, [.ref (ad (4 * r + 1)), .int (nI n), .int (M 4 + 1 + M 5), .int (nI P)])), ((ad (4 * r + 1)), .inl (t 1, 2, .inr (.inr (.inr (.inr (jr2 (ad (4 * r + 2)) (ad (4 * r + 3)))))))), ((ad (4 * r + 2)), .inl (t 0, 49, .inl (jcp n P P u0 (K r).2.2.2.1))), ((ad (4 * r + 3)), .inl (t 0, 49, .inl (jcp n P P u1 (K r).2.2.2.2)))] ++ jpoolx t ad (upK K r (nI n, M 4 + 1 + M 5, nI P, jcp n P P u0 (K r).2.2.2.1, jcp n P P u1 (K r).2.2.2.2)) r) [6, 7, 8, 9] [((ad (4 * r)), .inr (0, [.ref (ad (4 * r + 1)), .int (nI n), .int (M 4 + 1 + M 5), .int (nI (P + 1))])), ((ad (4 * r + 1)), .inl (t 1, 2, .inr (.inr (.inr (.inr (jr2 (ad (4 * r + 2)) (ad (4 * r + 3)))))))), ((ad (4 * r + 2)), .inl (t 0, 49, .inl (upd (jcp n P P u0 (K r).2.2.2.1) P a))), ((ad (4 * r + 3)), .inl (t 0, 49, .inl (upd (jcp n P P u1 (K r).2.2.2.2) P b)))]) (jdrop_nil (by rfl)) ?_
      refine jr_norm ([(x2, .inr (5, jmem (upd (upd M 7 1) 8 (nI n)) ca (some (ad (4 * r))))), (ca, .inl (t 2, 8, .inr (.inr (.inr (.inr (jcaps ad)))))), (y0, .inr (3, [.ref y1, .int (nI n)])), (y1, .inl (t 1, 2, .inr (.inr (.inr (.inr (jr2 y2 y3)))))), (y2, .inl (t 0, 16, .inl u0)), (y3, .inl (t 0, 16, .inl u1)), ((ad (4 * r)), .inr (0, [.ref (ad (4 * r + 1)), .int (nI n), .int (M 4 + 1 + M 5), .int (nI (P + 1))])), ((ad (4 * r + 1)), .inl (t 1, 2, .inr (.inr (.inr (.inr (jr2 (ad (4 * r + 2)) (ad (4 * r + 3)))))))), ((ad (4 * r + 2)), .inl (t 0, 49, .inl (upd (jcp n P P u0 (K r).2.2.2.1) P a))), ((ad (4 * r + 3)), .inl (t 0, 49, .inl (upd (jcp n P P u1 (K r).2.2.2.2) P b)))] ++ jpoolx t ad (upK K r (nI n, M 4 + 1 + M 5, nI P, jcp n P P u0 (K r).2.2.2.1, jcp n P P u1 (K r).2.2.2.2)) r) [] 40 0 0 rfl rfl rfl rfl rfl ?_
      refine jr_aload_n CC (jd ddX6_takeSample 20 rfl) 0 rfl ?_
      refine jr_get (v := .ref (ad (4 * r))) CC (jd ddX6_takeSample 21 rfl) (jf_X6_32 CC) 0 rfl rfl ?_
      refine jr_callV (q0 := 6) (rest := []) [] CC (jd ddX6_takeSample 22 rfl) (jy_X6_62 CC) (k_X0_isFull l t hfl (ad (4 * r)) (ad (4 * r + 1)) (nI n) (M 4 + 1 + M 5) (nI (P + 1))) [6] rfl (by decide) rfl rfl rfl rfl (by decide) (Nat.le_of_ble_eq_true rfl) (by rintro v u h; rcases h with ⟨h0, rfl, rfl⟩ | ⟨h0, rfl, rfl⟩ <;> rfl) (fun _ _ h => h.elim) (fun _ _ h => h.elim) (fun v u h => ?_)
      rcases h with ⟨c3, rfl, rfl⟩ | ⟨c4, rfl, rfl⟩
      · refine jr_ws (jput ([(x2, .inr (5, jmem (upd (upd M 7 1) 8 (nI n)) ca (some (ad (4 * r))))), (ca, .inl (t 2, 8, .inr (.inr (.inr (.inr (jcaps ad)))))), (y0, .inr (3, [.ref y1, .int (nI n)])), (y1, .inl (t 1, 2, .inr (.inr (.inr (.inr (jr2 y2 y3)))))), (y2, .inl (t 0, 16, .inl u0)), (y3, .inl (t 0, 16, .inl u1)), ((ad (4 * r)), .inr (0, [.ref (ad (4 * r + 1)), .int (nI n), .int (M 4 + 1 + M 5), .int (nI (P + 1))])), ((ad (4 * r + 1)), .inl (t 1, 2, .inr (.inr (.inr (.inr (jr2 (ad (4 * r + 2)) (ad (4 * r + 3)))))))), ((ad (4 * r + 2)), .inl (t 0, 49, .inl (upd (jcp n P P u0 (K r).2.2.2.1) P a))), ((ad (4 * r + 3)), .inl (t 0, 49, .inl (upd (jcp n P P u1 (K r).2.2.2.2) P b)))] ++ jpoolx t ad (upK K r (nI n, M 4 + 1 + M 5, nI P, jcp n P P u0 (K r).2.2.2.1, jcp n P P u1 (K r).2.2.2.2)) r) [6] [((ad (4 * r)), .inr (0, [.ref (ad (4 * r + 1)), .int (nI n), .int (M 4 + 1 + M 5), .int (nI (P + 1))]))]) (jdrop_nil (by rfl)) ?_
        refine jr_norm ([(x2, .inr (5, jmem (upd (upd M 7 1) 8 (nI n)) ca (some (ad (4 * r))))), (ca, .inl (t 2, 8, .inr (.inr (.inr (.inr (jcaps ad)))))), (y0, .inr (3, [.ref y1, .int (nI n)])), (y1, .inl (t 1, 2, .inr (.inr (.inr (.inr (jr2 y2 y3)))))), (y2, .inl (t 0, 16, .inl u0)), (y3, .inl (t 0, 16, .inl u1)), ((ad (4 * r)), .inr (0, [.ref (ad (4 * r + 1)), .int (nI n), .int (M 4 + 1 + M 5), .int (nI (P + 1))])), ((ad (4 * r + 1)), .inl (t 1, 2, .inr (.inr (.inr (.inr (jr2 (ad (4 * r + 2)) (ad (4 * r + 3)))))))), ((ad (4 * r + 2)), .inl (t 0, 49, .inl (upd (jcp n P P u0 (K r).2.2.2.1) P a))), ((ad (4 * r + 3)), .inl (t 0, 49, .inl (upd (jcp n P P u1 (K r).2.2.2.2) P b)))] ++ jpoolx t ad (upK K r (nI n, M 4 + 1 + M 5, nI P, jcp n P P u0 (K r).2.2.2.1, jcp n P P u1 (K r).2.2.2.2)) r) [.int 0] 47 0 0 rfl rfl rfl rfl rfl ?_
        refine jr_if_ne 52 CC (jd ddX6_takeSample 23 rfl) (by decide) (fun h => absurd h (by decide)) (fun _ => ?_)
        refine jr_iconst (v := 0) CC (jd ddX6_takeSample 24 rfl) (by decide) ?_
        refine jr_ws ([(x2, .inr (5, jmem (upd (upd M 7 1) 8 (nI n)) ca (some (ad (4 * r))))), (ca, .inl (t 2, 8, .inr (.inr (.inr (.inr (jcaps ad)))))), (y0, .inr (3, [.ref y1, .int (nI n)])), (y1, .inl (t 1, 2, .inr (.inr (.inr (.inr (jr2 y2 y3)))))), (y2, .inl (t 0, 16, .inl u0)), (y3, .inl (t 0, 16, .inl u1))] ++ (jcapw t ad r ((nI n), (M 4 + 1 + M 5), (nI (P + 1)), (upd (jcp n P P u0 (K r).2.2.2.1) P a), (upd (jcp n P P u1 (K r).2.2.2.2) P b)) ++ jpoolx t ad (upK K r (nI n, M 4 + 1 + M 5, nI P, jcp n P P u0 (K r).2.2.2.1, jcp n P P u1 (K r).2.2.2.2)) r)) rfl ?_
        refine jr_unfocus [(x2, .inr (5, jmem (upd (upd M 7 1) 8 (nI n)) ca (some (ad (4 * r))))), (ca, .inl (t 2, 8, .inr (.inr (.inr (.inr (jcaps ad)))))), (y0, .inr (3, [.ref y1, .int (nI n)])), (y1, .inl (t 1, 2, .inr (.inr (.inr (.inr (jr2 y2 y3)))))), (y2, .inl (t 0, 16, .inl u0)), (y3, .inl (t 0, 16, .inl u1))] r hr ?_
        refine jr_ws ([(x2, .inr (5, jmem (upd (upd M 7 1) 8 (nI n)) ca (some (ad (4 * r))))), (ca, .inl (t 2, 8, .inr (.inr (.inr (.inr (jcaps ad)))))), (y0, .inr (3, [.ref y1, .int (nI n)])), (y1, .inl (t 1, 2, .inr (.inr (.inr (.inr (jr2 y2 y3)))))), (y2, .inl (t 0, 16, .inl u0)), (y3, .inl (t 0, 16, .inl u1))] ++ jpool t ad (upK K r ((nI n), (M 4 + 1 + M 5), (nI (P + 1)), (upd (jcp n P P u0 (K r).2.2.2.1) P a), (upd (jcp n P P u1 (K r).2.2.2.2) P b)))) (by rw [upK_u]) ?_
        exact jr_zret rfl CC MM (jd ddX6_takeSample 25 rfl) rfl (by decide) (by decide) (Or.inr (Or.inr (Or.inl ⟨c1, c2, c3, rfl, rfl⟩)))
      · refine jr_ws (jput ([(x2, .inr (5, jmem (upd (upd M 7 1) 8 (nI n)) ca (some (ad (4 * r))))), (ca, .inl (t 2, 8, .inr (.inr (.inr (.inr (jcaps ad)))))), (y0, .inr (3, [.ref y1, .int (nI n)])), (y1, .inl (t 1, 2, .inr (.inr (.inr (.inr (jr2 y2 y3)))))), (y2, .inl (t 0, 16, .inl u0)), (y3, .inl (t 0, 16, .inl u1)), ((ad (4 * r)), .inr (0, [.ref (ad (4 * r + 1)), .int (nI n), .int (M 4 + 1 + M 5), .int (nI (P + 1))])), ((ad (4 * r + 1)), .inl (t 1, 2, .inr (.inr (.inr (.inr (jr2 (ad (4 * r + 2)) (ad (4 * r + 3)))))))), ((ad (4 * r + 2)), .inl (t 0, 49, .inl (upd (jcp n P P u0 (K r).2.2.2.1) P a))), ((ad (4 * r + 3)), .inl (t 0, 49, .inl (upd (jcp n P P u1 (K r).2.2.2.2) P b)))] ++ jpoolx t ad (upK K r (nI n, M 4 + 1 + M 5, nI P, jcp n P P u0 (K r).2.2.2.1, jcp n P P u1 (K r).2.2.2.2)) r) [6] [((ad (4 * r)), .inr (0, [.ref (ad (4 * r + 1)), .int (nI n), .int (M 4 + 1 + M 5), .int (nI (P + 1))]))]) (jdrop_nil (by rfl)) ?_
        refine jr_norm ([(x2, .inr (5, jmem (upd (upd M 7 1) 8 (nI n)) ca (some (ad (4 * r))))), (ca, .inl (t 2, 8, .inr (.inr (.inr (.inr (jcaps ad)))))), (y0, .inr (3, [.ref y1, .int (nI n)])), (y1, .inl (t 1, 2, .inr (.inr (.inr (.inr (jr2 y2 y3)))))), (y2, .inl (t 0, 16, .inl u0)), (y3, .inl (t 0, 16, .inl u1)), ((ad (4 * r)), .inr (0, [.ref (ad (4 * r + 1)), .int (nI n), .int (M 4 + 1 + M 5), .int (nI (P + 1))])), ((ad (4 * r + 1)), .inl (t 1, 2, .inr (.inr (.inr (.inr (jr2 (ad (4 * r + 2)) (ad (4 * r + 3)))))))), ((ad (4 * r + 2)), .inl (t 0, 49, .inl (upd (jcp n P P u0 (K r).2.2.2.1) P a))), ((ad (4 * r + 3)), .inl (t 0, 49, .inl (upd (jcp n P P u1 (K r).2.2.2.2) P b)))] ++ jpoolx t ad (upK K r (nI n, M 4 + 1 + M 5, nI P, jcp n P P u0 (K r).2.2.2.1, jcp n P P u1 (K r).2.2.2.2)) r) [.int 1] 47 0 0 rfl rfl rfl rfl rfl ?_
        refine jr_if_ne 52 CC (jd ddX6_takeSample 23 rfl) (by decide) (fun _ => ?_) (fun h => absurd h (by decide))
        refine jr_aload_n CC (jd ddX6_takeSample 26 rfl) 0 rfl ?_
        refine jr_null CC (jd ddX6_takeSample 27 rfl) ?_
        refine jr_put CC (jd ddX6_takeSample 28 rfl) (jf_X6_32 CC) 0 rfl rfl rfl (Nat.le_of_ble_eq_true rfl) ?_
        refine jr_ws ([(x2, .inr (5, jmem (upd (upd M 7 1) 8 (nI n)) ca none)), (ca, .inl (t 2, 8, .inr (.inr (.inr (.inr (jcaps ad)))))), (y0, .inr (3, [.ref y1, .int (nI n)])), (y1, .inl (t 1, 2, .inr (.inr (.inr (.inr (jr2 y2 y3)))))), (y2, .inl (t 0, 16, .inl u0)), (y3, .inl (t 0, 16, .inl u1)), ((ad (4 * r)), .inr (0, [.ref (ad (4 * r + 1)), .int (nI n), .int (M 4 + 1 + M 5), .int (nI (P + 1))])), ((ad (4 * r + 1)), .inl (t 1, 2, .inr (.inr (.inr (.inr (jr2 (ad (4 * r + 2)) (ad (4 * r + 3)))))))), ((ad (4 * r + 2)), .inl (t 0, 49, .inl (upd (jcp n P P u0 (K r).2.2.2.1) P a))), ((ad (4 * r + 3)), .inl (t 0, 49, .inl (upd (jcp n P P u1 (K r).2.2.2.2) P b)))] ++ jpoolx t ad (upK K r (nI n, M 4 + 1 + M 5, nI P, jcp n P P u0 (K r).2.2.2.1, jcp n P P u1 (K r).2.2.2.2)) r) rfl ?_
        refine jr_aload_n CC (jd ddX6_takeSample 29 rfl) 0 rfl ?_
        refine jr_dup CC (jd ddX6_takeSample 30 rfl) rfl ?_
        refine jr_get (v := .int (M 1)) CC (jd ddX6_takeSample 31 rfl) (jf_X6_36 CC) 0 rfl rfl ?_
        refine jr_iconst (v := 1) CC (jd ddX6_takeSample 32 rfl) (by decide) ?_
        refine jr_iadd CC (jd ddX6_takeSample 33 rfl) ?_
        refine jr_put CC (jd ddX6_takeSample 34 rfl) (jf_X6_36 CC) 0 rfl rfl rfl (Nat.le_of_ble_eq_true rfl) ?_
        refine jr_ws ([(x2, .inr (5, jmem (upd (upd (upd M 7 1) 8 (nI n)) 1 ((M 1) + 1)) ca none)), (ca, .inl (t 2, 8, .inr (.inr (.inr (.inr (jcaps ad)))))), (y0, .inr (3, [.ref y1, .int (nI n)])), (y1, .inl (t 1, 2, .inr (.inr (.inr (.inr (jr2 y2 y3)))))), (y2, .inl (t 0, 16, .inl u0)), (y3, .inl (t 0, 16, .inl u1)), ((ad (4 * r)), .inr (0, [.ref (ad (4 * r + 1)), .int (nI n), .int (M 4 + 1 + M 5), .int (nI (P + 1))])), ((ad (4 * r + 1)), .inl (t 1, 2, .inr (.inr (.inr (.inr (jr2 (ad (4 * r + 2)) (ad (4 * r + 3)))))))), ((ad (4 * r + 2)), .inl (t 0, 49, .inl (upd (jcp n P P u0 (K r).2.2.2.1) P a))), ((ad (4 * r + 3)), .inl (t 0, 49, .inl (upd (jcp n P P u1 (K r).2.2.2.2) P b)))] ++ jpoolx t ad (upK K r (nI n, M 4 + 1 + M 5, nI P, jcp n P P u0 (K r).2.2.2.1, jcp n P P u1 (K r).2.2.2.2)) r) rfl ?_
        refine jr_pc (pc' := 67) rfl ?_
        refine jr_aload_n CC (jd ddX6_takeSample 35 rfl) 0 rfl ?_
        refine jr_get (v := .int ((M 1) + 1)) CC (jd ddX6_takeSample 36 rfl) (jf_X6_36 CC) 0 rfl rfl ?_
        refine jr_bipush (v := 8) CC (jd ddX6_takeSample 37 rfl) (by decide) ?_
        refine jr_icmp_lt 81 CC (jd ddX6_takeSample 38 rfl) (by decide) (fun c7 => ?_) (fun c7 => ?_)
        · refine jr_iconst (v := 1) CC (jd ddX6_takeSample 42 rfl) (by decide) ?_
          refine jr_ws ([(x2, .inr (5, jmem (upd (upd (upd M 7 1) 8 (nI n)) 1 ((M 1) + 1)) ca none)), (ca, .inl (t 2, 8, .inr (.inr (.inr (.inr (jcaps ad)))))), (y0, .inr (3, [.ref y1, .int (nI n)])), (y1, .inl (t 1, 2, .inr (.inr (.inr (.inr (jr2 y2 y3)))))), (y2, .inl (t 0, 16, .inl u0)), (y3, .inl (t 0, 16, .inl u1))] ++ (jcapw t ad r ((nI n), (M 4 + 1 + M 5), (nI (P + 1)), (upd (jcp n P P u0 (K r).2.2.2.1) P a), (upd (jcp n P P u1 (K r).2.2.2.2) P b)) ++ jpoolx t ad (upK K r (nI n, M 4 + 1 + M 5, nI P, jcp n P P u0 (K r).2.2.2.1, jcp n P P u1 (K r).2.2.2.2)) r)) rfl ?_
          refine jr_unfocus [(x2, .inr (5, jmem (upd (upd (upd M 7 1) 8 (nI n)) 1 ((M 1) + 1)) ca none)), (ca, .inl (t 2, 8, .inr (.inr (.inr (.inr (jcaps ad)))))), (y0, .inr (3, [.ref y1, .int (nI n)])), (y1, .inl (t 1, 2, .inr (.inr (.inr (.inr (jr2 y2 y3)))))), (y2, .inl (t 0, 16, .inl u0)), (y3, .inl (t 0, 16, .inl u1))] r hr ?_
          refine jr_ws ([(x2, .inr (5, jmem (upd (upd (upd M 7 1) 8 (nI n)) 1 ((M 1) + 1)) ca none)), (ca, .inl (t 2, 8, .inr (.inr (.inr (.inr (jcaps ad)))))), (y0, .inr (3, [.ref y1, .int (nI n)])), (y1, .inl (t 1, 2, .inr (.inr (.inr (.inr (jr2 y2 y3)))))), (y2, .inl (t 0, 16, .inl u0)), (y3, .inl (t 0, 16, .inl u1))] ++ jpool t ad (upK K r ((nI n), (M 4 + 1 + M 5), (nI (P + 1)), (upd (jcp n P P u0 (K r).2.2.2.1) P a), (upd (jcp n P P u1 (K r).2.2.2.2) P b)))) (by rw [upK_u]) ?_
          exact jr_zret rfl CC MM (jd ddX6_takeSample 43 rfl) rfl (by decide) (by decide) (Or.inr (Or.inr (Or.inr (Or.inl ⟨c1, c2, c4, c7, rfl, rfl⟩))))
        · refine jr_aload_n CC (jd ddX6_takeSample 39 rfl) 0 rfl ?_
          refine jr_iconst (v := 0) CC (jd ddX6_takeSample 40 rfl) (by decide) ?_
          refine jr_put CC (jd ddX6_takeSample 41 rfl) (jf_X6_28 CC) 0 rfl rfl rfl (Nat.le_of_ble_eq_true rfl) ?_
          refine jr_ws ([(x2, .inr (5, jmem (upd (upd (upd (upd M 7 1) 8 (nI n)) 1 ((M 1) + 1)) 3 0) ca none)), (ca, .inl (t 2, 8, .inr (.inr (.inr (.inr (jcaps ad)))))), (y0, .inr (3, [.ref y1, .int (nI n)])), (y1, .inl (t 1, 2, .inr (.inr (.inr (.inr (jr2 y2 y3)))))), (y2, .inl (t 0, 16, .inl u0)), (y3, .inl (t 0, 16, .inl u1)), ((ad (4 * r)), .inr (0, [.ref (ad (4 * r + 1)), .int (nI n), .int (M 4 + 1 + M 5), .int (nI (P + 1))])), ((ad (4 * r + 1)), .inl (t 1, 2, .inr (.inr (.inr (.inr (jr2 (ad (4 * r + 2)) (ad (4 * r + 3)))))))), ((ad (4 * r + 2)), .inl (t 0, 49, .inl (upd (jcp n P P u0 (K r).2.2.2.1) P a))), ((ad (4 * r + 3)), .inl (t 0, 49, .inl (upd (jcp n P P u1 (K r).2.2.2.2) P b)))] ++ jpoolx t ad (upK K r (nI n, M 4 + 1 + M 5, nI P, jcp n P P u0 (K r).2.2.2.1, jcp n P P u1 (K r).2.2.2.2)) r) rfl ?_
          refine jr_iconst (v := 1) CC (jd ddX6_takeSample 42 rfl) (by decide) ?_
          refine jr_ws ([(x2, .inr (5, jmem (upd (upd (upd (upd M 7 1) 8 (nI n)) 1 ((M 1) + 1)) 3 0) ca none)), (ca, .inl (t 2, 8, .inr (.inr (.inr (.inr (jcaps ad)))))), (y0, .inr (3, [.ref y1, .int (nI n)])), (y1, .inl (t 1, 2, .inr (.inr (.inr (.inr (jr2 y2 y3)))))), (y2, .inl (t 0, 16, .inl u0)), (y3, .inl (t 0, 16, .inl u1))] ++ (jcapw t ad r ((nI n), (M 4 + 1 + M 5), (nI (P + 1)), (upd (jcp n P P u0 (K r).2.2.2.1) P a), (upd (jcp n P P u1 (K r).2.2.2.2) P b)) ++ jpoolx t ad (upK K r (nI n, M 4 + 1 + M 5, nI P, jcp n P P u0 (K r).2.2.2.1, jcp n P P u1 (K r).2.2.2.2)) r)) rfl ?_
          refine jr_unfocus [(x2, .inr (5, jmem (upd (upd (upd (upd M 7 1) 8 (nI n)) 1 ((M 1) + 1)) 3 0) ca none)), (ca, .inl (t 2, 8, .inr (.inr (.inr (.inr (jcaps ad)))))), (y0, .inr (3, [.ref y1, .int (nI n)])), (y1, .inl (t 1, 2, .inr (.inr (.inr (.inr (jr2 y2 y3)))))), (y2, .inl (t 0, 16, .inl u0)), (y3, .inl (t 0, 16, .inl u1))] r hr ?_
          refine jr_ws ([(x2, .inr (5, jmem (upd (upd (upd (upd M 7 1) 8 (nI n)) 1 ((M 1) + 1)) 3 0) ca none)), (ca, .inl (t 2, 8, .inr (.inr (.inr (.inr (jcaps ad)))))), (y0, .inr (3, [.ref y1, .int (nI n)])), (y1, .inl (t 1, 2, .inr (.inr (.inr (.inr (jr2 y2 y3)))))), (y2, .inl (t 0, 16, .inl u0)), (y3, .inl (t 0, 16, .inl u1))] ++ jpool t ad (upK K r ((nI n), (M 4 + 1 + M 5), (nI (P + 1)), (upd (jcp n P P u0 (K r).2.2.2.1) P a), (upd (jcp n P P u1 (K r).2.2.2.2) P b)))) (by rw [upK_u]) ?_
          exact jr_zret rfl CC MM (jd ddX6_takeSample 43 rfl) rfl (by decide) (by decide) (Or.inr (Or.inr (Or.inr (Or.inr ⟨c1, c2, c4, c7, rfl, rfl⟩))))
set_option maxHeartbeats 8000000 in
set_option maxRecDepth 100000 in
theorem k_X6_takeSample_c (l : Launch) (t : Nat → ClassId) (hfl : l.stackTraces = false) (x2 : Nat) (M : Nat → Int32) (ca : Nat) (y0 : Nat) (y1 : Nat) (y2 : Nat) (y3 : Nat) (n : Nat) (u0 : Nat → Int32) (u1 : Nat → Int32) (ad : Nat → Nat) (K : Nat → JCap) (r : Nat) (k : Nat) (fr : Int32) (a : Int32) (b : Int32) (hM1 : M 1 = nI r) (hr : r < 8) (hk : (K r).2.2.1 = nI k) (hk9 : k < 49) (hn : n < 1000000) : jKx l t yX6_takeSample (Cond.code yX6_takeSample cX6_takeSample 5 (some .boolean) :: jWS) { frames := 1, cells := 0, slots := 0, locals := 22 } [.ref x2, .int fr, .int a, .int b, .ref y0] ([(x2, .inr (5, jmem M ca (some (ad (4 * r))))), (ca, .inl (t 2, 8, .inr (.inr (.inr (.inr (jcaps ad)))))), (y0, .inr (3, [.ref y1, .int (nI n)])), (y1, .inl (t 1, 2, .inr (.inr (.inr (.inr (jr2 y2 y3)))))), (y2, .inl (t 0, 16, .inl u0)), (y3, .inl (t 0, 16, .inl u1))] ++ jpool t ad K) (fun vv uu => ((fr = 0) ∧ ((nI (k + 1)) < ((K r).2.1)) ∧ vv = some (.int 0) ∧ uu = ([(x2, .inr (5, jmem M ca (some (ad (4 * r))))), (ca, .inl (t 2, 8, .inr (.inr (.inr (.inr (jcaps ad)))))), (y0, .inr (3, [.ref y1, .int (nI n)])), (y1, .inl (t 1, 2, .inr (.inr (.inr (.inr (jr2 y2 y3)))))), (y2, .inl (t 0, 16, .inl u0)), (y3, .inl (t 0, 16, .inl u1))] ++ jpool t ad (upK K r (((K r).1), ((K r).2.1), (nI (k + 1)), (upd ((K r).2.2.2.1) k a), (upd ((K r).2.2.2.2) k b))))) ∨ ((fr = 0) ∧ (¬ (nI (k + 1)) < ((K r).2.1)) ∧ (((M 1) + 1) < 8) ∧ vv = some (.int 1) ∧ uu = ([(x2, .inr (5, jmem (upd M 1 ((M 1) + 1)) ca none)), (ca, .inl (t 2, 8, .inr (.inr (.inr (.inr (jcaps ad)))))), (y0, .inr (3, [.ref y1, .int (nI n)])), (y1, .inl (t 1, 2, .inr (.inr (.inr (.inr (jr2 y2 y3)))))), (y2, .inl (t 0, 16, .inl u0)), (y3, .inl (t 0, 16, .inl u1))] ++ jpool t ad (upK K r (((K r).1), ((K r).2.1), (nI (k + 1)), (upd ((K r).2.2.2.1) k a), (upd ((K r).2.2.2.2) k b))))) ∨ ((fr = 0) ∧ (¬ (nI (k + 1)) < ((K r).2.1)) ∧ (¬ ((M 1) + 1) < 8) ∧ vv = some (.int 1) ∧ uu = ([(x2, .inr (5, jmem (upd (upd M 1 ((M 1) + 1)) 3 0) ca none)), (ca, .inl (t 2, 8, .inr (.inr (.inr (.inr (jcaps ad)))))), (y0, .inr (3, [.ref y1, .int (nI n)])), (y1, .inl (t 1, 2, .inr (.inr (.inr (.inr (jr2 y2 y3)))))), (y2, .inl (t 0, 16, .inl u0)), (y3, .inl (t 0, 16, .inl u1))] ++ jpool t ad (upK K r (((K r).1), ((K r).2.1), (nI (k + 1)), (upd ((K r).2.2.2.1) k a), (upd ((K r).2.2.2.2) k b))))) ∨ ((¬ fr = 0) ∧ ((nI (k + 1)) < ((K r).2.1)) ∧ vv = some (.int 0) ∧ uu = ([(x2, .inr (5, jmem M ca (some (ad (4 * r))))), (ca, .inl (t 2, 8, .inr (.inr (.inr (.inr (jcaps ad)))))), (y0, .inr (3, [.ref y1, .int (nI n)])), (y1, .inl (t 1, 2, .inr (.inr (.inr (.inr (jr2 y2 y3)))))), (y2, .inl (t 0, 16, .inl u0)), (y3, .inl (t 0, 16, .inl u1))] ++ jpool t ad (upK K r (((K r).1), ((K r).2.1), (nI (k + 1)), (upd ((K r).2.2.2.1) k a), (upd ((K r).2.2.2.2) k b))))) ∨ ((¬ fr = 0) ∧ (¬ (nI (k + 1)) < ((K r).2.1)) ∧ (((M 1) + 1) < 8) ∧ vv = some (.int 1) ∧ uu = ([(x2, .inr (5, jmem (upd M 1 ((M 1) + 1)) ca none)), (ca, .inl (t 2, 8, .inr (.inr (.inr (.inr (jcaps ad)))))), (y0, .inr (3, [.ref y1, .int (nI n)])), (y1, .inl (t 1, 2, .inr (.inr (.inr (.inr (jr2 y2 y3)))))), (y2, .inl (t 0, 16, .inl u0)), (y3, .inl (t 0, 16, .inl u1))] ++ jpool t ad (upK K r (((K r).1), ((K r).2.1), (nI (k + 1)), (upd ((K r).2.2.2.1) k a), (upd ((K r).2.2.2.2) k b))))) ∨ ((¬ fr = 0) ∧ (¬ (nI (k + 1)) < ((K r).2.1)) ∧ (¬ ((M 1) + 1) < 8) ∧ vv = some (.int 1) ∧ uu = ([(x2, .inr (5, jmem (upd (upd M 1 ((M 1) + 1)) 3 0) ca none)), (ca, .inl (t 2, 8, .inr (.inr (.inr (.inr (jcaps ad)))))), (y0, .inr (3, [.ref y1, .int (nI n)])), (y1, .inl (t 1, 2, .inr (.inr (.inr (.inr (jr2 y2 y3)))))), (y2, .inl (t 0, 16, .inl u0)), (y3, .inl (t 0, 16, .inl u1))] ++ jpool t ad (upK K r (((K r).1), ((K r).2.1), (nI (k + 1)), (upd ((K r).2.2.2.1) k a), (upd ((K r).2.2.2.2) k b)))))) (fun _ _ => False) := by
  refine jK_of hfl (by decide +kernel) (Nat.le_of_ble_eq_true rfl) ?_
  intro p e s m args below meth c D A Q CC MM
  refine jr_norm0 [(0, .ref x2), (1, .int fr), (2, .int a), (3, .int b), (4, .ref y0)] rfl ?_
  refine jr_iload_n CC (jd ddX6_takeSample 0 rfl) 1 rfl ?_
  refine jr_if_eq 22 CC (jd ddX6_takeSample 1 rfl) (by decide) (fun c1 => ?_) (fun c1 => ?_)
  · refine jr_aload_n CC (jd ddX6_takeSample 10 rfl) 0 rfl ?_
    refine jr_get (v := .ref (ad (4 * r))) CC (jd ddX6_takeSample 11 rfl) (jf_X6_32 CC) 0 rfl rfl ?_
    refine jr_ifnonnull 31 CC (jd ddX6_takeSample 12 rfl) (by decide) ?_
    refine jr_focus [(x2, .inr (5, jmem M ca (some (ad (4 * r))))), (ca, .inl (t 2, 8, .inr (.inr (.inr (.inr (jcaps ad)))))), (y0, .inr (3, [.ref y1, .int (nI n)])), (y1, .inl (t 1, 2, .inr (.inr (.inr (.inr (jr2 y2 y3)))))), (y2, .inl (t 0, 16, .inl u0)), (y3, .inl (t 0, 16, .inl u1))] r hr ?_
    refine jr_ws ([(x2, .inr (5, jmem M ca (some (ad (4 * r))))), (ca, .inl (t 2, 8, .inr (.inr (.inr (.inr (jcaps ad)))))), (y0, .inr (3, [.ref y1, .int (nI n)])), (y1, .inl (t 1, 2, .inr (.inr (.inr (.inr (jr2 y2 y3)))))), (y2, .inl (t 0, 16, .inl u0)), (y3, .inl (t 0, 16, .inl u1)), ((ad (4 * r)), .inr (0, [.ref (ad (4 * r + 1)), .int ((K r).1), .int ((K r).2.1), .int ((K r).2.2.1)])), ((ad (4 * r + 1)), .inl (t 1, 2, .inr (.inr (.inr (.inr (jr2 (ad (4 * r + 2)) (ad (4 * r + 3)))))))), ((ad (4 * r + 2)), .inl (t 0, 49, .inl ((K r).2.2.2.1))), ((ad (4 * r + 3)), .inl (t 0, 49, .inl ((K r).2.2.2.2)))] ++ jpoolx t ad K r) rfl ?_
    refine jr_ws ([(x2, .inr (5, jmem M ca (some (ad (4 * r))))), (ca, .inl (t 2, 8, .inr (.inr (.inr (.inr (jcaps ad)))))), (y0, .inr (3, [.ref y1, .int (nI n)])), (y1, .inl (t 1, 2, .inr (.inr (.inr (.inr (jr2 y2 y3)))))), (y2, .inl (t 0, 16, .inl u0)), (y3, .inl (t 0, 16, .inl u1)), ((ad (4 * r)), .inr (0, [.ref (ad (4 * r + 1)), .int ((K r).1), .int ((K r).2.1), .int (nI k)])), ((ad (4 * r + 1)), .inl (t 1, 2, .inr (.inr (.inr (.inr (jr2 (ad (4 * r + 2)) (ad (4 * r + 3)))))))), ((ad (4 * r + 2)), .inl (t 0, 49, .inl ((K r).2.2.2.1))), ((ad (4 * r + 3)), .inl (t 0, 49, .inl ((K r).2.2.2.2)))] ++ jpoolx t ad K r) (by rw [hk]) ?_
    refine jr_aload_n CC (jd ddX6_takeSample 15 rfl) 0 rfl ?_
    refine jr_get (v := .ref (ad (4 * r))) CC (jd ddX6_takeSample 16 rfl) (jf_X6_32 CC) 0 rfl rfl ?_
    refine jr_iload_n CC (jd ddX6_takeSample 17 rfl) 2 rfl ?_
    refine jr_iload_n CC (jd ddX6_takeSample 18 rfl) 3 rfl ?_
    refine jr_callV (q0 := 6) (rest := []) [.int a, .int b] CC (jd ddX6_takeSample 19 rfl) (jy_X6_58 CC) (k_X0_add l t hfl (ad (4 * r)) (ad (4 * r + 1)) (ad (4 * r + 2)) (ad (4 * r + 3)) ((K r).1) ((K r).2.1) k ((K r).2.2.2.1) ((K r).2.2.2.2) a b hk9) [6, 7, 8, 9] rfl (by decide) rfl rfl rfl rfl (by decide) (Nat.le_of_ble_eq_true rfl) (by rintro v u h; rcases h with ⟨rfl, rfl⟩ <;> rfl) (fun _ _ h => h.elim) (fun _ _ h => h.elim) (fun v u h => ?_)
    rcases h with ⟨rfl, rfl⟩
    refine jr_ws (jput ([(x2, .inr (5, jmem M ca (some (ad (4 * r))))), (ca, .inl (t 2, 8, .inr (.inr (.inr (.inr (jcaps ad)))))), (y0, .inr (3, [.ref y1, .int (nI n)])), (y1, .inl (t 1, 2, .inr (.inr (.inr (.inr (jr2 y2 y3)))))), (y2, .inl (t 0, 16, .inl u0)), (y3, .inl (t 0, 16, .inl u1)), ((ad (4 * r)), .inr (0, [.ref (ad (4 * r + 1)), .int ((K r).1), .int ((K r).2.1), .int (nI k)])), ((ad (4 * r + 1)), .inl (t 1, 2, .inr (.inr (.inr (.inr (jr2 (ad (4 * r + 2)) (ad (4 * r + 3)))))))), ((ad (4 * r + 2)), .inl (t 0, 49, .inl ((K r).2.2.2.1))), ((ad (4 * r + 3)), .inl (t 0, 49, .inl ((K r).2.2.2.2)))] ++ jpoolx t ad K r) [6, 7, 8, 9] [((ad (4 * r)), .inr (0, [.ref (ad (4 * r + 1)), .int ((K r).1), .int ((K r).2.1), .int (nI (k + 1))])), ((ad (4 * r + 1)), .inl (t 1, 2, .inr (.inr (.inr (.inr (jr2 (ad (4 * r + 2)) (ad (4 * r + 3)))))))), ((ad (4 * r + 2)), .inl (t 0, 49, .inl (upd ((K r).2.2.2.1) k a))), ((ad (4 * r + 3)), .inl (t 0, 49, .inl (upd ((K r).2.2.2.2) k b)))]) (jdrop_nil (by rfl)) ?_
    refine jr_norm ([(x2, .inr (5, jmem M ca (some (ad (4 * r))))), (ca, .inl (t 2, 8, .inr (.inr (.inr (.inr (jcaps ad)))))), (y0, .inr (3, [.ref y1, .int (nI n)])), (y1, .inl (t 1, 2, .inr (.inr (.inr (.inr (jr2 y2 y3)))))), (y2, .inl (t 0, 16, .inl u0)), (y3, .inl (t 0, 16, .inl u1)), ((ad (4 * r)), .inr (0, [.ref (ad (4 * r + 1)), .int ((K r).1), .int ((K r).2.1), .int (nI (k + 1))])), ((ad (4 * r + 1)), .inl (t 1, 2, .inr (.inr (.inr (.inr (jr2 (ad (4 * r + 2)) (ad (4 * r + 3)))))))), ((ad (4 * r + 2)), .inl (t 0, 49, .inl (upd ((K r).2.2.2.1) k a))), ((ad (4 * r + 3)), .inl (t 0, 49, .inl (upd ((K r).2.2.2.2) k b)))] ++ jpoolx t ad K r) [] 40 0 0 rfl rfl rfl rfl rfl ?_
    refine jr_aload_n CC (jd ddX6_takeSample 20 rfl) 0 rfl ?_
    refine jr_get (v := .ref (ad (4 * r))) CC (jd ddX6_takeSample 21 rfl) (jf_X6_32 CC) 0 rfl rfl ?_
    refine jr_callV (q0 := 6) (rest := []) [] CC (jd ddX6_takeSample 22 rfl) (jy_X6_62 CC) (k_X0_isFull l t hfl (ad (4 * r)) (ad (4 * r + 1)) ((K r).1) ((K r).2.1) (nI (k + 1))) [6] rfl (by decide) rfl rfl rfl rfl (by decide) (Nat.le_of_ble_eq_true rfl) (by rintro v u h; rcases h with ⟨h0, rfl, rfl⟩ | ⟨h0, rfl, rfl⟩ <;> rfl) (fun _ _ h => h.elim) (fun _ _ h => h.elim) (fun v u h => ?_)
    rcases h with ⟨c2, rfl, rfl⟩ | ⟨c3, rfl, rfl⟩
    · refine jr_ws (jput ([(x2, .inr (5, jmem M ca (some (ad (4 * r))))), (ca, .inl (t 2, 8, .inr (.inr (.inr (.inr (jcaps ad)))))), (y0, .inr (3, [.ref y1, .int (nI n)])), (y1, .inl (t 1, 2, .inr (.inr (.inr (.inr (jr2 y2 y3)))))), (y2, .inl (t 0, 16, .inl u0)), (y3, .inl (t 0, 16, .inl u1)), ((ad (4 * r)), .inr (0, [.ref (ad (4 * r + 1)), .int ((K r).1), .int ((K r).2.1), .int (nI (k + 1))])), ((ad (4 * r + 1)), .inl (t 1, 2, .inr (.inr (.inr (.inr (jr2 (ad (4 * r + 2)) (ad (4 * r + 3)))))))), ((ad (4 * r + 2)), .inl (t 0, 49, .inl (upd ((K r).2.2.2.1) k a))), ((ad (4 * r + 3)), .inl (t 0, 49, .inl (upd ((K r).2.2.2.2) k b)))] ++ jpoolx t ad K r) [6] [((ad (4 * r)), .inr (0, [.ref (ad (4 * r + 1)), .int ((K r).1), .int ((K r).2.1), .int (nI (k + 1))]))]) (jdrop_nil (by rfl)) ?_
      refine jr_norm ([(x2, .inr (5, jmem M ca (some (ad (4 * r))))), (ca, .inl (t 2, 8, .inr (.inr (.inr (.inr (jcaps ad)))))), (y0, .inr (3, [.ref y1, .int (nI n)])), (y1, .inl (t 1, 2, .inr (.inr (.inr (.inr (jr2 y2 y3)))))), (y2, .inl (t 0, 16, .inl u0)), (y3, .inl (t 0, 16, .inl u1)), ((ad (4 * r)), .inr (0, [.ref (ad (4 * r + 1)), .int ((K r).1), .int ((K r).2.1), .int (nI (k + 1))])), ((ad (4 * r + 1)), .inl (t 1, 2, .inr (.inr (.inr (.inr (jr2 (ad (4 * r + 2)) (ad (4 * r + 3)))))))), ((ad (4 * r + 2)), .inl (t 0, 49, .inl (upd ((K r).2.2.2.1) k a))), ((ad (4 * r + 3)), .inl (t 0, 49, .inl (upd ((K r).2.2.2.2) k b)))] ++ jpoolx t ad K r) [.int 0] 47 0 0 rfl rfl rfl rfl rfl ?_
      refine jr_if_ne 52 CC (jd ddX6_takeSample 23 rfl) (by decide) (fun h => absurd h (by decide)) (fun _ => ?_)
      refine jr_iconst (v := 0) CC (jd ddX6_takeSample 24 rfl) (by decide) ?_
      refine jr_ws ([(x2, .inr (5, jmem M ca (some (ad (4 * r))))), (ca, .inl (t 2, 8, .inr (.inr (.inr (.inr (jcaps ad)))))), (y0, .inr (3, [.ref y1, .int (nI n)])), (y1, .inl (t 1, 2, .inr (.inr (.inr (.inr (jr2 y2 y3)))))), (y2, .inl (t 0, 16, .inl u0)), (y3, .inl (t 0, 16, .inl u1))] ++ (jcapw t ad r (((K r).1), ((K r).2.1), (nI (k + 1)), (upd ((K r).2.2.2.1) k a), (upd ((K r).2.2.2.2) k b)) ++ jpoolx t ad K r)) rfl ?_
      refine jr_unfocus [(x2, .inr (5, jmem M ca (some (ad (4 * r))))), (ca, .inl (t 2, 8, .inr (.inr (.inr (.inr (jcaps ad)))))), (y0, .inr (3, [.ref y1, .int (nI n)])), (y1, .inl (t 1, 2, .inr (.inr (.inr (.inr (jr2 y2 y3)))))), (y2, .inl (t 0, 16, .inl u0)), (y3, .inl (t 0, 16, .inl u1))] r hr ?_
      exact jr_zret rfl CC MM (jd ddX6_takeSample 25 rfl) rfl (by decide) (by decide) (Or.inl ⟨c1, c2, rfl, rfl⟩)
    · refine jr_ws (jput ([(x2, .inr (5, jmem M ca (some (ad (4 * r))))), (ca, .inl (t 2, 8, .inr (.inr (.inr (.inr (jcaps ad)))))), (y0, .inr (3, [.ref y1, .int (nI n)])), (y1, .inl (t 1, 2, .inr (.inr (.inr (.inr (jr2 y2 y3)))))), (y2, .inl (t 0, 16, .inl u0)), (y3, .inl (t 0, 16, .inl u1)), ((ad (4 * r)), .inr (0, [.ref (ad (4 * r + 1)), .int ((K r).1), .int ((K r).2.1), .int (nI (k + 1))])), ((ad (4 * r + 1)), .inl (t 1, 2, .inr (.inr (.inr (.inr (jr2 (ad (4 * r + 2)) (ad (4 * r + 3)))))))), ((ad (4 * r + 2)), .inl (t 0, 49, .inl (upd ((K r).2.2.2.1) k a))), ((ad (4 * r + 3)), .inl (t 0, 49, .inl (upd ((K r).2.2.2.2) k b)))] ++ jpoolx t ad K r) [6] [((ad (4 * r)), .inr (0, [.ref (ad (4 * r + 1)), .int ((K r).1), .int ((K r).2.1), .int (nI (k + 1))]))]) (jdrop_nil (by rfl)) ?_
      refine jr_norm ([(x2, .inr (5, jmem M ca (some (ad (4 * r))))), (ca, .inl (t 2, 8, .inr (.inr (.inr (.inr (jcaps ad)))))), (y0, .inr (3, [.ref y1, .int (nI n)])), (y1, .inl (t 1, 2, .inr (.inr (.inr (.inr (jr2 y2 y3)))))), (y2, .inl (t 0, 16, .inl u0)), (y3, .inl (t 0, 16, .inl u1)), ((ad (4 * r)), .inr (0, [.ref (ad (4 * r + 1)), .int ((K r).1), .int ((K r).2.1), .int (nI (k + 1))])), ((ad (4 * r + 1)), .inl (t 1, 2, .inr (.inr (.inr (.inr (jr2 (ad (4 * r + 2)) (ad (4 * r + 3)))))))), ((ad (4 * r + 2)), .inl (t 0, 49, .inl (upd ((K r).2.2.2.1) k a))), ((ad (4 * r + 3)), .inl (t 0, 49, .inl (upd ((K r).2.2.2.2) k b)))] ++ jpoolx t ad K r) [.int 1] 47 0 0 rfl rfl rfl rfl rfl ?_
      refine jr_if_ne 52 CC (jd ddX6_takeSample 23 rfl) (by decide) (fun _ => ?_) (fun h => absurd h (by decide))
      refine jr_aload_n CC (jd ddX6_takeSample 26 rfl) 0 rfl ?_
      refine jr_null CC (jd ddX6_takeSample 27 rfl) ?_
      refine jr_put CC (jd ddX6_takeSample 28 rfl) (jf_X6_32 CC) 0 rfl rfl rfl (Nat.le_of_ble_eq_true rfl) ?_
      refine jr_ws ([(x2, .inr (5, jmem M ca none)), (ca, .inl (t 2, 8, .inr (.inr (.inr (.inr (jcaps ad)))))), (y0, .inr (3, [.ref y1, .int (nI n)])), (y1, .inl (t 1, 2, .inr (.inr (.inr (.inr (jr2 y2 y3)))))), (y2, .inl (t 0, 16, .inl u0)), (y3, .inl (t 0, 16, .inl u1)), ((ad (4 * r)), .inr (0, [.ref (ad (4 * r + 1)), .int ((K r).1), .int ((K r).2.1), .int (nI (k + 1))])), ((ad (4 * r + 1)), .inl (t 1, 2, .inr (.inr (.inr (.inr (jr2 (ad (4 * r + 2)) (ad (4 * r + 3)))))))), ((ad (4 * r + 2)), .inl (t 0, 49, .inl (upd ((K r).2.2.2.1) k a))), ((ad (4 * r + 3)), .inl (t 0, 49, .inl (upd ((K r).2.2.2.2) k b)))] ++ jpoolx t ad K r) rfl ?_
      refine jr_aload_n CC (jd ddX6_takeSample 29 rfl) 0 rfl ?_
      refine jr_dup CC (jd ddX6_takeSample 30 rfl) rfl ?_
      refine jr_get (v := .int (M 1)) CC (jd ddX6_takeSample 31 rfl) (jf_X6_36 CC) 0 rfl rfl ?_
      refine jr_iconst (v := 1) CC (jd ddX6_takeSample 32 rfl) (by decide) ?_
      refine jr_iadd CC (jd ddX6_takeSample 33 rfl) ?_
      refine jr_put CC (jd ddX6_takeSample 34 rfl) (jf_X6_36 CC) 0 rfl rfl rfl (Nat.le_of_ble_eq_true rfl) ?_
      refine jr_ws ([(x2, .inr (5, jmem (upd M 1 ((M 1) + 1)) ca none)), (ca, .inl (t 2, 8, .inr (.inr (.inr (.inr (jcaps ad)))))), (y0, .inr (3, [.ref y1, .int (nI n)])), (y1, .inl (t 1, 2, .inr (.inr (.inr (.inr (jr2 y2 y3)))))), (y2, .inl (t 0, 16, .inl u0)), (y3, .inl (t 0, 16, .inl u1)), ((ad (4 * r)), .inr (0, [.ref (ad (4 * r + 1)), .int ((K r).1), .int ((K r).2.1), .int (nI (k + 1))])), ((ad (4 * r + 1)), .inl (t 1, 2, .inr (.inr (.inr (.inr (jr2 (ad (4 * r + 2)) (ad (4 * r + 3)))))))), ((ad (4 * r + 2)), .inl (t 0, 49, .inl (upd ((K r).2.2.2.1) k a))), ((ad (4 * r + 3)), .inl (t 0, 49, .inl (upd ((K r).2.2.2.2) k b)))] ++ jpoolx t ad K r) rfl ?_
      refine jr_pc (pc' := 67) rfl ?_
      refine jr_aload_n CC (jd ddX6_takeSample 35 rfl) 0 rfl ?_
      refine jr_get (v := .int ((M 1) + 1)) CC (jd ddX6_takeSample 36 rfl) (jf_X6_36 CC) 0 rfl rfl ?_
      refine jr_bipush (v := 8) CC (jd ddX6_takeSample 37 rfl) (by decide) ?_
      refine jr_icmp_lt 81 CC (jd ddX6_takeSample 38 rfl) (by decide) (fun c6 => ?_) (fun c6 => ?_)
      · refine jr_iconst (v := 1) CC (jd ddX6_takeSample 42 rfl) (by decide) ?_
        refine jr_ws ([(x2, .inr (5, jmem (upd M 1 ((M 1) + 1)) ca none)), (ca, .inl (t 2, 8, .inr (.inr (.inr (.inr (jcaps ad)))))), (y0, .inr (3, [.ref y1, .int (nI n)])), (y1, .inl (t 1, 2, .inr (.inr (.inr (.inr (jr2 y2 y3)))))), (y2, .inl (t 0, 16, .inl u0)), (y3, .inl (t 0, 16, .inl u1))] ++ (jcapw t ad r (((K r).1), ((K r).2.1), (nI (k + 1)), (upd ((K r).2.2.2.1) k a), (upd ((K r).2.2.2.2) k b)) ++ jpoolx t ad K r)) rfl ?_
        refine jr_unfocus [(x2, .inr (5, jmem (upd M 1 ((M 1) + 1)) ca none)), (ca, .inl (t 2, 8, .inr (.inr (.inr (.inr (jcaps ad)))))), (y0, .inr (3, [.ref y1, .int (nI n)])), (y1, .inl (t 1, 2, .inr (.inr (.inr (.inr (jr2 y2 y3)))))), (y2, .inl (t 0, 16, .inl u0)), (y3, .inl (t 0, 16, .inl u1))] r hr ?_
        exact jr_zret rfl CC MM (jd ddX6_takeSample 43 rfl) rfl (by decide) (by decide) (Or.inr (Or.inl ⟨c1, c3, c6, rfl, rfl⟩))
      · refine jr_aload_n CC (jd ddX6_takeSample 39 rfl) 0 rfl ?_
        refine jr_iconst (v := 0) CC (jd ddX6_takeSample 40 rfl) (by decide) ?_
        refine jr_put CC (jd ddX6_takeSample 41 rfl) (jf_X6_28 CC) 0 rfl rfl rfl (Nat.le_of_ble_eq_true rfl) ?_
        refine jr_ws ([(x2, .inr (5, jmem (upd (upd M 1 ((M 1) + 1)) 3 0) ca none)), (ca, .inl (t 2, 8, .inr (.inr (.inr (.inr (jcaps ad)))))), (y0, .inr (3, [.ref y1, .int (nI n)])), (y1, .inl (t 1, 2, .inr (.inr (.inr (.inr (jr2 y2 y3)))))), (y2, .inl (t 0, 16, .inl u0)), (y3, .inl (t 0, 16, .inl u1)), ((ad (4 * r)), .inr (0, [.ref (ad (4 * r + 1)), .int ((K r).1), .int ((K r).2.1), .int (nI (k + 1))])), ((ad (4 * r + 1)), .inl (t 1, 2, .inr (.inr (.inr (.inr (jr2 (ad (4 * r + 2)) (ad (4 * r + 3)))))))), ((ad (4 * r + 2)), .inl (t 0, 49, .inl (upd ((K r).2.2.2.1) k a))), ((ad (4 * r + 3)), .inl (t 0, 49, .inl (upd ((K r).2.2.2.2) k b)))] ++ jpoolx t ad K r) rfl ?_
        refine jr_iconst (v := 1) CC (jd ddX6_takeSample 42 rfl) (by decide) ?_
        refine jr_ws ([(x2, .inr (5, jmem (upd (upd M 1 ((M 1) + 1)) 3 0) ca none)), (ca, .inl (t 2, 8, .inr (.inr (.inr (.inr (jcaps ad)))))), (y0, .inr (3, [.ref y1, .int (nI n)])), (y1, .inl (t 1, 2, .inr (.inr (.inr (.inr (jr2 y2 y3)))))), (y2, .inl (t 0, 16, .inl u0)), (y3, .inl (t 0, 16, .inl u1))] ++ (jcapw t ad r (((K r).1), ((K r).2.1), (nI (k + 1)), (upd ((K r).2.2.2.1) k a), (upd ((K r).2.2.2.2) k b)) ++ jpoolx t ad K r)) rfl ?_
        refine jr_unfocus [(x2, .inr (5, jmem (upd (upd M 1 ((M 1) + 1)) 3 0) ca none)), (ca, .inl (t 2, 8, .inr (.inr (.inr (.inr (jcaps ad)))))), (y0, .inr (3, [.ref y1, .int (nI n)])), (y1, .inl (t 1, 2, .inr (.inr (.inr (.inr (jr2 y2 y3)))))), (y2, .inl (t 0, 16, .inl u0)), (y3, .inl (t 0, 16, .inl u1))] r hr ?_
        exact jr_zret rfl CC MM (jd ddX6_takeSample 43 rfl) rfl (by decide) (by decide) (Or.inr (Or.inr (Or.inl ⟨c1, c3, c6, rfl, rfl⟩)))
  · refine jr_aload_n CC (jd ddX6_takeSample 2 rfl) 0 rfl ?_
    refine jr_aload CC (jd ddX6_takeSample 3 rfl) 4 rfl ?_
    refine jr_get (v := .int (nI n)) CC (jd ddX6_takeSample 4 rfl) (jf_X6_45 CC) 2 rfl rfl ?_
    refine jr_callV (q0 := 0) (rest := []) [.int (nI n)] CC (jd ddX6_takeSample 5 rfl) (jy_X6_50 CC) (k_X6_mayTrigger_c l t hfl x2 M ca (ad (4 * r)) (nI n)) [0] rfl (by decide) rfl rfl rfl rfl (by decide) (Nat.le_of_ble_eq_true rfl) (by rintro v u h; rcases h with ⟨rfl, rfl⟩ <;> rfl) (fun _ _ h => h.elim) (fun _ _ h => h.elim) (fun v u h => ?_)
    rcases h with ⟨rfl, rfl⟩
    refine jr_ws (jput ([(x2, .inr (5, jmem M ca (some (ad (4 * r))))), (ca, .inl (t 2, 8, .inr (.inr (.inr (.inr (jcaps ad)))))), (y0, .inr (3, [.ref y1, .int (nI n)])), (y1, .inl (t 1, 2, .inr (.inr (.inr (.inr (jr2 y2 y3)))))), (y2, .inl (t 0, 16, .inl u0)), (y3, .inl (t 0, 16, .inl u1))] ++ jpool t ad K) [0] [(x2, .inr (5, jmem M ca (some (ad (4 * r)))))]) (jdrop_nil (by rfl)) ?_
    refine jr_norm ([(x2, .inr (5, jmem M ca (some (ad (4 * r))))), (ca, .inl (t 2, 8, .inr (.inr (.inr (.inr (jcaps ad)))))), (y0, .inr (3, [.ref y1, .int (nI n)])), (y1, .inl (t 1, 2, .inr (.inr (.inr (.inr (jr2 y2 y3)))))), (y2, .inl (t 0, 16, .inl u0)), (y3, .inl (t 0, 16, .inl u1))] ++ jpool t ad K) [.int 0] 13 0 0 rfl rfl rfl rfl rfl ?_
    refine jr_if_eq 22 CC (jd ddX6_takeSample 6 rfl) (by decide) (fun _ => ?_) (fun h => absurd h (by decide))
    refine jr_aload_n CC (jd ddX6_takeSample 10 rfl) 0 rfl ?_
    refine jr_get (v := .ref (ad (4 * r))) CC (jd ddX6_takeSample 11 rfl) (jf_X6_32 CC) 0 rfl rfl ?_
    refine jr_ifnonnull 31 CC (jd ddX6_takeSample 12 rfl) (by decide) ?_
    refine jr_focus [(x2, .inr (5, jmem M ca (some (ad (4 * r))))), (ca, .inl (t 2, 8, .inr (.inr (.inr (.inr (jcaps ad)))))), (y0, .inr (3, [.ref y1, .int (nI n)])), (y1, .inl (t 1, 2, .inr (.inr (.inr (.inr (jr2 y2 y3)))))), (y2, .inl (t 0, 16, .inl u0)), (y3, .inl (t 0, 16, .inl u1))] r hr ?_
    refine jr_ws ([(x2, .inr (5, jmem M ca (some (ad (4 * r))))), (ca, .inl (t 2, 8, .inr (.inr (.inr (.inr (jcaps ad)))))), (y0, .inr (3, [.ref y1, .int (nI n)])), (y1, .inl (t 1, 2, .inr (.inr (.inr (.inr (jr2 y2 y3)))))), (y2, .inl (t 0, 16, .inl u0)), (y3, .inl (t 0, 16, .inl u1)), ((ad (4 * r)), .inr (0, [.ref (ad (4 * r + 1)), .int ((K r).1), .int ((K r).2.1), .int ((K r).2.2.1)])), ((ad (4 * r + 1)), .inl (t 1, 2, .inr (.inr (.inr (.inr (jr2 (ad (4 * r + 2)) (ad (4 * r + 3)))))))), ((ad (4 * r + 2)), .inl (t 0, 49, .inl ((K r).2.2.2.1))), ((ad (4 * r + 3)), .inl (t 0, 49, .inl ((K r).2.2.2.2)))] ++ jpoolx t ad K r) rfl ?_
    refine jr_ws ([(x2, .inr (5, jmem M ca (some (ad (4 * r))))), (ca, .inl (t 2, 8, .inr (.inr (.inr (.inr (jcaps ad)))))), (y0, .inr (3, [.ref y1, .int (nI n)])), (y1, .inl (t 1, 2, .inr (.inr (.inr (.inr (jr2 y2 y3)))))), (y2, .inl (t 0, 16, .inl u0)), (y3, .inl (t 0, 16, .inl u1)), ((ad (4 * r)), .inr (0, [.ref (ad (4 * r + 1)), .int ((K r).1), .int ((K r).2.1), .int (nI k)])), ((ad (4 * r + 1)), .inl (t 1, 2, .inr (.inr (.inr (.inr (jr2 (ad (4 * r + 2)) (ad (4 * r + 3)))))))), ((ad (4 * r + 2)), .inl (t 0, 49, .inl ((K r).2.2.2.1))), ((ad (4 * r + 3)), .inl (t 0, 49, .inl ((K r).2.2.2.2)))] ++ jpoolx t ad K r) (by rw [hk]) ?_
    refine jr_aload_n CC (jd ddX6_takeSample 15 rfl) 0 rfl ?_
    refine jr_get (v := .ref (ad (4 * r))) CC (jd ddX6_takeSample 16 rfl) (jf_X6_32 CC) 0 rfl rfl ?_
    refine jr_iload_n CC (jd ddX6_takeSample 17 rfl) 2 rfl ?_
    refine jr_iload_n CC (jd ddX6_takeSample 18 rfl) 3 rfl ?_
    refine jr_callV (q0 := 6) (rest := []) [.int a, .int b] CC (jd ddX6_takeSample 19 rfl) (jy_X6_58 CC) (k_X0_add l t hfl (ad (4 * r)) (ad (4 * r + 1)) (ad (4 * r + 2)) (ad (4 * r + 3)) ((K r).1) ((K r).2.1) k ((K r).2.2.2.1) ((K r).2.2.2.2) a b hk9) [6, 7, 8, 9] rfl (by decide) rfl rfl rfl rfl (by decide) (Nat.le_of_ble_eq_true rfl) (by rintro v u h; rcases h with ⟨rfl, rfl⟩ <;> rfl) (fun _ _ h => h.elim) (fun _ _ h => h.elim) (fun v u h => ?_)
    rcases h with ⟨rfl, rfl⟩
    refine jr_ws (jput ([(x2, .inr (5, jmem M ca (some (ad (4 * r))))), (ca, .inl (t 2, 8, .inr (.inr (.inr (.inr (jcaps ad)))))), (y0, .inr (3, [.ref y1, .int (nI n)])), (y1, .inl (t 1, 2, .inr (.inr (.inr (.inr (jr2 y2 y3)))))), (y2, .inl (t 0, 16, .inl u0)), (y3, .inl (t 0, 16, .inl u1)), ((ad (4 * r)), .inr (0, [.ref (ad (4 * r + 1)), .int ((K r).1), .int ((K r).2.1), .int (nI k)])), ((ad (4 * r + 1)), .inl (t 1, 2, .inr (.inr (.inr (.inr (jr2 (ad (4 * r + 2)) (ad (4 * r + 3)))))))), ((ad (4 * r + 2)), .inl (t 0, 49, .inl ((K r).2.2.2.1))), ((ad (4 * r + 3)), .inl (t 0, 49, .inl ((K r).2.2.2.2)))] ++ jpoolx t ad K r) [6, 7, 8, 9] [((ad (4 * r)), .inr (0, [.ref (ad (4 * r + 1)), .int ((K r).1), .int ((K r).2.1), .int (nI (k + 1))])), ((ad (4 * r + 1)), .inl (t 1, 2, .inr (.inr (.inr (.inr (jr2 (ad (4 * r + 2)) (ad (4 * r + 3)))))))), ((ad (4 * r + 2)), .inl (t 0, 49, .inl (upd ((K r).2.2.2.1) k a))), ((ad (4 * r + 3)), .inl (t 0, 49, .inl (upd ((K r).2.2.2.2) k b)))]) (jdrop_nil (by rfl)) ?_
    refine jr_norm ([(x2, .inr (5, jmem M ca (some (ad (4 * r))))), (ca, .inl (t 2, 8, .inr (.inr (.inr (.inr (jcaps ad)))))), (y0, .inr (3, [.ref y1, .int (nI n)])), (y1, .inl (t 1, 2, .inr (.inr (.inr (.inr (jr2 y2 y3)))))), (y2, .inl (t 0, 16, .inl u0)), (y3, .inl (t 0, 16, .inl u1)), ((ad (4 * r)), .inr (0, [.ref (ad (4 * r + 1)), .int ((K r).1), .int ((K r).2.1), .int (nI (k + 1))])), ((ad (4 * r + 1)), .inl (t 1, 2, .inr (.inr (.inr (.inr (jr2 (ad (4 * r + 2)) (ad (4 * r + 3)))))))), ((ad (4 * r + 2)), .inl (t 0, 49, .inl (upd ((K r).2.2.2.1) k a))), ((ad (4 * r + 3)), .inl (t 0, 49, .inl (upd ((K r).2.2.2.2) k b)))] ++ jpoolx t ad K r) [] 40 0 0 rfl rfl rfl rfl rfl ?_
    refine jr_aload_n CC (jd ddX6_takeSample 20 rfl) 0 rfl ?_
    refine jr_get (v := .ref (ad (4 * r))) CC (jd ddX6_takeSample 21 rfl) (jf_X6_32 CC) 0 rfl rfl ?_
    refine jr_callV (q0 := 6) (rest := []) [] CC (jd ddX6_takeSample 22 rfl) (jy_X6_62 CC) (k_X0_isFull l t hfl (ad (4 * r)) (ad (4 * r + 1)) ((K r).1) ((K r).2.1) (nI (k + 1))) [6] rfl (by decide) rfl rfl rfl rfl (by decide) (Nat.le_of_ble_eq_true rfl) (by rintro v u h; rcases h with ⟨h0, rfl, rfl⟩ | ⟨h0, rfl, rfl⟩ <;> rfl) (fun _ _ h => h.elim) (fun _ _ h => h.elim) (fun v u h => ?_)
    rcases h with ⟨c8, rfl, rfl⟩ | ⟨c9, rfl, rfl⟩
    · refine jr_ws (jput ([(x2, .inr (5, jmem M ca (some (ad (4 * r))))), (ca, .inl (t 2, 8, .inr (.inr (.inr (.inr (jcaps ad)))))), (y0, .inr (3, [.ref y1, .int (nI n)])), (y1, .inl (t 1, 2, .inr (.inr (.inr (.inr (jr2 y2 y3)))))), (y2, .inl (t 0, 16, .inl u0)), (y3, .inl (t 0, 16, .inl u1)), ((ad (4 * r)), .inr (0, [.ref (ad (4 * r + 1)), .int ((K r).1), .int ((K r).2.1), .int (nI (k + 1))])), ((ad (4 * r + 1)), .inl (t 1, 2, .inr (.inr (.inr (.inr (jr2 (ad (4 * r + 2)) (ad (4 * r + 3)))))))), ((ad (4 * r + 2)), .inl (t 0, 49, .inl (upd ((K r).2.2.2.1) k a))), ((ad (4 * r + 3)), .inl (t 0, 49, .inl (upd ((K r).2.2.2.2) k b)))] ++ jpoolx t ad K r) [6] [((ad (4 * r)), .inr (0, [.ref (ad (4 * r + 1)), .int ((K r).1), .int ((K r).2.1), .int (nI (k + 1))]))]) (jdrop_nil (by rfl)) ?_
      refine jr_norm ([(x2, .inr (5, jmem M ca (some (ad (4 * r))))), (ca, .inl (t 2, 8, .inr (.inr (.inr (.inr (jcaps ad)))))), (y0, .inr (3, [.ref y1, .int (nI n)])), (y1, .inl (t 1, 2, .inr (.inr (.inr (.inr (jr2 y2 y3)))))), (y2, .inl (t 0, 16, .inl u0)), (y3, .inl (t 0, 16, .inl u1)), ((ad (4 * r)), .inr (0, [.ref (ad (4 * r + 1)), .int ((K r).1), .int ((K r).2.1), .int (nI (k + 1))])), ((ad (4 * r + 1)), .inl (t 1, 2, .inr (.inr (.inr (.inr (jr2 (ad (4 * r + 2)) (ad (4 * r + 3)))))))), ((ad (4 * r + 2)), .inl (t 0, 49, .inl (upd ((K r).2.2.2.1) k a))), ((ad (4 * r + 3)), .inl (t 0, 49, .inl (upd ((K r).2.2.2.2) k b)))] ++ jpoolx t ad K r) [.int 0] 47 0 0 rfl rfl rfl rfl rfl ?_
      refine jr_if_ne 52 CC (jd ddX6_takeSample 23 rfl) (by decide) (fun h => absurd h (by decide)) (fun _ => ?_)
      refine jr_iconst (v := 0) CC (jd ddX6_takeSample 24 rfl) (by decide) ?_
      refine jr_ws ([(x2, .inr (5, jmem M ca (some (ad (4 * r))))), (ca, .inl (t 2, 8, .inr (.inr (.inr (.inr (jcaps ad)))))), (y0, .inr (3, [.ref y1, .int (nI n)])), (y1, .inl (t 1, 2, .inr (.inr (.inr (.inr (jr2 y2 y3)))))), (y2, .inl (t 0, 16, .inl u0)), (y3, .inl (t 0, 16, .inl u1))] ++ (jcapw t ad r (((K r).1), ((K r).2.1), (nI (k + 1)), (upd ((K r).2.2.2.1) k a), (upd ((K r).2.2.2.2) k b)) ++ jpoolx t ad K r)) rfl ?_
      refine jr_unfocus [(x2, .inr (5, jmem M ca (some (ad (4 * r))))), (ca, .inl (t 2, 8, .inr (.inr (.inr (.inr (jcaps ad)))))), (y0, .inr (3, [.ref y1, .int (nI n)])), (y1, .inl (t 1, 2, .inr (.inr (.inr (.inr (jr2 y2 y3)))))), (y2, .inl (t 0, 16, .inl u0)), (y3, .inl (t 0, 16, .inl u1))] r hr ?_
      exact jr_zret rfl CC MM (jd ddX6_takeSample 25 rfl) rfl (by decide) (by decide) (Or.inr (Or.inr (Or.inr (Or.inl ⟨c1, c8, rfl, rfl⟩))))
    · refine jr_ws (jput ([(x2, .inr (5, jmem M ca (some (ad (4 * r))))), (ca, .inl (t 2, 8, .inr (.inr (.inr (.inr (jcaps ad)))))), (y0, .inr (3, [.ref y1, .int (nI n)])), (y1, .inl (t 1, 2, .inr (.inr (.inr (.inr (jr2 y2 y3)))))), (y2, .inl (t 0, 16, .inl u0)), (y3, .inl (t 0, 16, .inl u1)), ((ad (4 * r)), .inr (0, [.ref (ad (4 * r + 1)), .int ((K r).1), .int ((K r).2.1), .int (nI (k + 1))])), ((ad (4 * r + 1)), .inl (t 1, 2, .inr (.inr (.inr (.inr (jr2 (ad (4 * r + 2)) (ad (4 * r + 3)))))))), ((ad (4 * r + 2)), .inl (t 0, 49, .inl (upd ((K r).2.2.2.1) k a))), ((ad (4 * r + 3)), .inl (t 0, 49, .inl (upd ((K r).2.2.2.2) k b)))] ++ jpoolx t ad K r) [6] [((ad (4 * r)), .inr (0, [.ref (ad (4 * r + 1)), .int ((K r).1), .int ((K r).2.1), .int (nI (k + 1))]))]) (jdrop_nil (by rfl)) ?_
      refine jr_norm ([(x2, .inr (5, jmem M ca (some (ad (4 * r))))), (ca, .inl (t 2, 8, .inr (.inr (.inr (.inr (jcaps ad)))))), (y0, .inr (3, [.ref y1, .int (nI n)])), (y1, .inl (t 1, 2, .inr (.inr (.inr (.inr (jr2 y2 y3)))))), (y2, .inl (t 0, 16, .inl u0)), (y3, .inl (t 0, 16, .inl u1)), ((ad (4 * r)), .inr (0, [.ref (ad (4 * r + 1)), .int ((K r).1), .int ((K r).2.1), .int (nI (k + 1))])), ((ad (4 * r + 1)), .inl (t 1, 2, .inr (.inr (.inr (.inr (jr2 (ad (4 * r + 2)) (ad (4 * r + 3)))))))), ((ad (4 * r + 2)), .inl (t 0, 49, .inl (upd ((K r).2.2.2.1) k a))), ((ad (4 * r + 3)), .inl (t 0, 49, .inl (upd ((K r).2.2.2.2) k b)))] ++ jpoolx t ad K r) [.int 1] 47 0 0 rfl rfl rfl rfl rfl ?_
      refine jr_if_ne 52 CC (jd ddX6_takeSample 23 rfl) (by decide) (fun _ => ?_) (fun h => absurd h (by decide))
      refine jr_aload_n CC (jd ddX6_takeSample 26 rfl) 0 rfl ?_
      refine jr_null CC (jd ddX6_takeSample 27 rfl) ?_
      refine jr_put CC (jd ddX6_takeSample 28 rfl) (jf_X6_32 CC) 0 rfl rfl rfl (Nat.le_of_ble_eq_true rfl) ?_
      refine jr_ws ([(x2, .inr (5, jmem M ca none)), (ca, .inl (t 2, 8, .inr (.inr (.inr (.inr (jcaps ad)))))), (y0, .inr (3, [.ref y1, .int (nI n)])), (y1, .inl (t 1, 2, .inr (.inr (.inr (.inr (jr2 y2 y3)))))), (y2, .inl (t 0, 16, .inl u0)), (y3, .inl (t 0, 16, .inl u1)), ((ad (4 * r)), .inr (0, [.ref (ad (4 * r + 1)), .int ((K r).1), .int ((K r).2.1), .int (nI (k + 1))])), ((ad (4 * r + 1)), .inl (t 1, 2, .inr (.inr (.inr (.inr (jr2 (ad (4 * r + 2)) (ad (4 * r + 3)))))))), ((ad (4 * r + 2)), .inl (t 0, 49, .inl (upd ((K r).2.2.2.1) k a))), ((ad (4 * r + 3)), .inl (t 0, 49, .inl (upd ((K r).2.2.2.2) k b)))] ++ jpoolx t ad K r) rfl ?_
      refine jr_aload_n CC (jd ddX6_takeSample 29 rfl) 0 rfl ?_
      refine jr_dup CC (jd ddX6_takeSample 30 rfl) rfl ?_
      refine jr_get (v := .int (M 1)) CC (jd ddX6_takeSample 31 rfl) (jf_X6_36 CC) 0 rfl rfl ?_
      refine jr_iconst (v := 1) CC (jd ddX6_takeSample 32 rfl) (by decide) ?_
      refine jr_iadd CC (jd ddX6_takeSample 33 rfl) ?_
      refine jr_put CC (jd ddX6_takeSample 34 rfl) (jf_X6_36 CC) 0 rfl rfl rfl (Nat.le_of_ble_eq_true rfl) ?_
      refine jr_ws ([(x2, .inr (5, jmem (upd M 1 ((M 1) + 1)) ca none)), (ca, .inl (t 2, 8, .inr (.inr (.inr (.inr (jcaps ad)))))), (y0, .inr (3, [.ref y1, .int (nI n)])), (y1, .inl (t 1, 2, .inr (.inr (.inr (.inr (jr2 y2 y3)))))), (y2, .inl (t 0, 16, .inl u0)), (y3, .inl (t 0, 16, .inl u1)), ((ad (4 * r)), .inr (0, [.ref (ad (4 * r + 1)), .int ((K r).1), .int ((K r).2.1), .int (nI (k + 1))])), ((ad (4 * r + 1)), .inl (t 1, 2, .inr (.inr (.inr (.inr (jr2 (ad (4 * r + 2)) (ad (4 * r + 3)))))))), ((ad (4 * r + 2)), .inl (t 0, 49, .inl (upd ((K r).2.2.2.1) k a))), ((ad (4 * r + 3)), .inl (t 0, 49, .inl (upd ((K r).2.2.2.2) k b)))] ++ jpoolx t ad K r) rfl ?_
      refine jr_pc (pc' := 67) rfl ?_
      refine jr_aload_n CC (jd ddX6_takeSample 35 rfl) 0 rfl ?_
      refine jr_get (v := .int ((M 1) + 1)) CC (jd ddX6_takeSample 36 rfl) (jf_X6_36 CC) 0 rfl rfl ?_
      refine jr_bipush (v := 8) CC (jd ddX6_takeSample 37 rfl) (by decide) ?_
      refine jr_icmp_lt 81 CC (jd ddX6_takeSample 38 rfl) (by decide) (fun c12 => ?_) (fun c12 => ?_)
      · refine jr_iconst (v := 1) CC (jd ddX6_takeSample 42 rfl) (by decide) ?_
        refine jr_ws ([(x2, .inr (5, jmem (upd M 1 ((M 1) + 1)) ca none)), (ca, .inl (t 2, 8, .inr (.inr (.inr (.inr (jcaps ad)))))), (y0, .inr (3, [.ref y1, .int (nI n)])), (y1, .inl (t 1, 2, .inr (.inr (.inr (.inr (jr2 y2 y3)))))), (y2, .inl (t 0, 16, .inl u0)), (y3, .inl (t 0, 16, .inl u1))] ++ (jcapw t ad r (((K r).1), ((K r).2.1), (nI (k + 1)), (upd ((K r).2.2.2.1) k a), (upd ((K r).2.2.2.2) k b)) ++ jpoolx t ad K r)) rfl ?_
        refine jr_unfocus [(x2, .inr (5, jmem (upd M 1 ((M 1) + 1)) ca none)), (ca, .inl (t 2, 8, .inr (.inr (.inr (.inr (jcaps ad)))))), (y0, .inr (3, [.ref y1, .int (nI n)])), (y1, .inl (t 1, 2, .inr (.inr (.inr (.inr (jr2 y2 y3)))))), (y2, .inl (t 0, 16, .inl u0)), (y3, .inl (t 0, 16, .inl u1))] r hr ?_
        exact jr_zret rfl CC MM (jd ddX6_takeSample 43 rfl) rfl (by decide) (by decide) (Or.inr (Or.inr (Or.inr (Or.inr (Or.inl ⟨c1, c9, c12, rfl, rfl⟩)))))
      · refine jr_aload_n CC (jd ddX6_takeSample 39 rfl) 0 rfl ?_
        refine jr_iconst (v := 0) CC (jd ddX6_takeSample 40 rfl) (by decide) ?_
        refine jr_put CC (jd ddX6_takeSample 41 rfl) (jf_X6_28 CC) 0 rfl rfl rfl (Nat.le_of_ble_eq_true rfl) ?_
        refine jr_ws ([(x2, .inr (5, jmem (upd (upd M 1 ((M 1) + 1)) 3 0) ca none)), (ca, .inl (t 2, 8, .inr (.inr (.inr (.inr (jcaps ad)))))), (y0, .inr (3, [.ref y1, .int (nI n)])), (y1, .inl (t 1, 2, .inr (.inr (.inr (.inr (jr2 y2 y3)))))), (y2, .inl (t 0, 16, .inl u0)), (y3, .inl (t 0, 16, .inl u1)), ((ad (4 * r)), .inr (0, [.ref (ad (4 * r + 1)), .int ((K r).1), .int ((K r).2.1), .int (nI (k + 1))])), ((ad (4 * r + 1)), .inl (t 1, 2, .inr (.inr (.inr (.inr (jr2 (ad (4 * r + 2)) (ad (4 * r + 3)))))))), ((ad (4 * r + 2)), .inl (t 0, 49, .inl (upd ((K r).2.2.2.1) k a))), ((ad (4 * r + 3)), .inl (t 0, 49, .inl (upd ((K r).2.2.2.2) k b)))] ++ jpoolx t ad K r) rfl ?_
        refine jr_iconst (v := 1) CC (jd ddX6_takeSample 42 rfl) (by decide) ?_
        refine jr_ws ([(x2, .inr (5, jmem (upd (upd M 1 ((M 1) + 1)) 3 0) ca none)), (ca, .inl (t 2, 8, .inr (.inr (.inr (.inr (jcaps ad)))))), (y0, .inr (3, [.ref y1, .int (nI n)])), (y1, .inl (t 1, 2, .inr (.inr (.inr (.inr (jr2 y2 y3)))))), (y2, .inl (t 0, 16, .inl u0)), (y3, .inl (t 0, 16, .inl u1))] ++ (jcapw t ad r (((K r).1), ((K r).2.1), (nI (k + 1)), (upd ((K r).2.2.2.1) k a), (upd ((K r).2.2.2.2) k b)) ++ jpoolx t ad K r)) rfl ?_
        refine jr_unfocus [(x2, .inr (5, jmem (upd (upd M 1 ((M 1) + 1)) 3 0) ca none)), (ca, .inl (t 2, 8, .inr (.inr (.inr (.inr (jcaps ad)))))), (y0, .inr (3, [.ref y1, .int (nI n)])), (y1, .inl (t 1, 2, .inr (.inr (.inr (.inr (jr2 y2 y3)))))), (y2, .inl (t 0, 16, .inl u0)), (y3, .inl (t 0, 16, .inl u1))] r hr ?_
        exact jr_zret rfl CC MM (jd ddX6_takeSample 43 rfl) rfl (by decide) (by decide) (Or.inr (Or.inr (Or.inr (Or.inr (Or.inr ⟨c1, c9, c12, rfl, rfl⟩)))))
set_option maxHeartbeats 8000000 in
set_option maxRecDepth 100000 in
theorem k_X6_judgeLatest (l : Launch) (t : Nat → ClassId) (hfl : l.stackTraces = false) (x2 : Nat) (M : Nat → Int32) (ca : Nat) (cg : Option Nat) (g0 : Nat) (g1 : Nat) (g2 : Nat) (fl : Nat → Int32) (ce : Nat → Int32) (ad : Nat → Nat) (K : Nat → JCap) (r : Nat) (k : Nat) (hM1 : M 1 = nI (r + 1)) (hr : r < 8) (hk : (K r).2.2.1 = nI k) (hk9 : k ≤ 49) : jKx l t yX6_judgeLatest (Cond.code yX6_judgeLatest cX6_judgeLatest 4 none :: jWS) { frames := 2, cells := 0, slots := 0, locals := 45 } [.ref x2, .ref g0] ([(x2, .inr (5, jmem M ca cg)), (ca, .inl (t 2, 8, .inr (.inr (.inr (.inr (jcaps ad)))))), (g0, .inr (4, [.ref g1, .ref g2])), (g1, .inl (t 0, 49, .inl fl)), (g2, .inl (t 0, 49, .inl ce))] ++ jpool t ad K) (fun vv uu => ((¬ (jlow ((K r).2.2.2.1) fl ce k 0) = (-1)) ∧ (¬ M 10 = (-1)) ∧ vv = none ∧ uu = ([(x2, .inr (5, jmem (upd M 9 ((M 9) + 1)) ca cg)), (ca, .inl (t 2, 8, .inr (.inr (.inr (.inr (jcaps ad)))))), (g0, .inr (4, [.ref g1, .ref g2])), (g1, .inl (t 0, 49, .inl fl)), (g2, .inl (t 0, 49, .inl ce))] ++ jpool t ad (upK K r (((K r).1), ((K r).2.1), (K r).2.2.1, ((K r).2.2.2.1), ((K r).2.2.2.2))))) ∨ ((¬ (jlow ((K r).2.2.2.1) fl ce k 0) = (-1)) ∧ (M 10 = (-1)) ∧ vv = none ∧ uu = ([(x2, .inr (5, jmem (upd (upd M 9 ((M 9) + 1)) 10 ((100 * (nI r)) + (jlow ((K r).2.2.2.1) fl ce k 0))) ca cg)), (ca, .inl (t 2, 8, .inr (.inr (.inr (.inr (jcaps ad)))))), (g0, .inr (4, [.ref g1, .ref g2])), (g1, .inl (t 0, 49, .inl fl)), (g2, .inl (t 0, 49, .inl ce))] ++ jpool t ad (upK K r (((K r).1), ((K r).2.1), (K r).2.2.1, ((K r).2.2.2.1), ((K r).2.2.2.2))))) ∨ (((jlow ((K r).2.2.2.1) fl ce k 0) = (-1)) ∧ vv = none ∧ uu = ([(x2, .inr (5, jmem M ca cg)), (ca, .inl (t 2, 8, .inr (.inr (.inr (.inr (jcaps ad)))))), (g0, .inr (4, [.ref g1, .ref g2])), (g1, .inl (t 0, 49, .inl fl)), (g2, .inl (t 0, 49, .inl ce))] ++ jpool t ad (upK K r (((K r).1), ((K r).2.1), (K r).2.2.1, ((K r).2.2.2.1), ((K r).2.2.2.2)))))) (fun _ _ => False) := by
  refine jK_of hfl (by decide +kernel) (Nat.le_of_ble_eq_true rfl) ?_
  intro p e s m args below meth c D A Q CC MM
  refine jr_norm0 [(0, .ref x2), (1, .ref g0)] rfl ?_
  refine jr_aload_n CC (jd ddX6_judgeLatest 0 rfl) 0 rfl ?_
  refine jr_get (v := .int (M 1)) CC (jd ddX6_judgeLatest 1 rfl) (jf_X6_36 CC) 0 rfl rfl ?_
  refine jr_iconst (v := 1) CC (jd ddX6_judgeLatest 2 rfl) (by decide) ?_
  refine jr_isub CC (jd ddX6_judgeLatest 3 rfl) ?_
  refine jr_st [.int (nI r)] (by rw [hM1, nI_pred]) ?_
  refine jr_istore_n 2 [(2, .int (nI r)), (0, .ref x2), (1, .ref g0)] CC (jd ddX6_judgeLatest 4 rfl) rfl (by decide) rfl ?_
  refine jr_iload_n CC (jd ddX6_judgeLatest 5 rfl) 0 rfl ?_
  refine jr_if_lt 17 CC (jd ddX6_judgeLatest 6 rfl) (by decide) (fun h => absurd h (nI_pos (by omega))) (fun _ => ?_)
  refine jr_iload_n CC (jd ddX6_judgeLatest 7 rfl) 0 rfl ?_
  refine jr_bipush (v := 8) CC (jd ddX6_judgeLatest 8 rfl) (by decide) ?_
  refine jr_icmp_lt 18 CC (jd ddX6_judgeLatest 9 rfl) (by decide) (fun _ => ?_) (fun h => absurd (j_lt 8 rfl hr (by decide)) h)
  refine jr_pc (pc' := 18) rfl ?_
  refine jr_aload_n CC (jd ddX6_judgeLatest 11 rfl) 2 rfl ?_
  refine jr_aload_n CC (jd ddX6_judgeLatest 12 rfl) 1 rfl ?_
  refine jr_get (v := .ref ca) CC (jd ddX6_judgeLatest 13 rfl) (jf_X6_11 CC) 0 rfl rfl ?_
  refine jr_iload_n CC (jd ddX6_judgeLatest 14 rfl) 0 rfl ?_
  refine jr_aldq (v := .ref (ad (4 * r))) CC (jd ddX6_judgeLatest 15 rfl) 1 r rfl rfl hr (by decide) rfl ?_
  refine jr_focus [(x2, .inr (5, jmem M ca cg)), (ca, .inl (t 2, 8, .inr (.inr (.inr (.inr (jcaps ad)))))), (g0, .inr (4, [.ref g1, .ref g2])), (g1, .inl (t 0, 49, .inl fl)), (g2, .inl (t 0, 49, .inl ce))] r hr ?_
  refine jr_ws ([(x2, .inr (5, jmem M ca cg)), (ca, .inl (t 2, 8, .inr (.inr (.inr (.inr (jcaps ad)))))), (g0, .inr (4, [.ref g1, .ref g2])), (g1, .inl (t 0, 49, .inl fl)), (g2, .inl (t 0, 49, .inl ce)), ((ad (4 * r)), .inr (0, [.ref (ad (4 * r + 1)), .int ((K r).1), .int ((K r).2.1), .int ((K r).2.2.1)])), ((ad (4 * r + 1)), .inl (t 1, 2, .inr (.inr (.inr (.inr (jr2 (ad (4 * r + 2)) (ad (4 * r + 3)))))))), ((ad (4 * r + 2)), .inl (t 0, 49, .inl ((K r).2.2.2.1))), ((ad (4 * r + 3)), .inl (t 0, 49, .inl ((K r).2.2.2.2)))] ++ jpoolx t ad K r) rfl ?_
  refine jr_ws ([(x2, .inr (5, jmem M ca cg)), (ca, .inl (t 2, 8, .inr (.inr (.inr (.inr (jcaps ad)))))), (g0, .inr (4, [.ref g1, .ref g2])), (g1, .inl (t 0, 49, .inl fl)), (g2, .inl (t 0, 49, .inl ce)), ((ad (4 * r)), .inr (0, [.ref (ad (4 * r + 1)), .int ((K r).1), .int ((K r).2.1), .int (nI k)])), ((ad (4 * r + 1)), .inl (t 1, 2, .inr (.inr (.inr (.inr (jr2 (ad (4 * r + 2)) (ad (4 * r + 3)))))))), ((ad (4 * r + 2)), .inl (t 0, 49, .inl ((K r).2.2.2.1))), ((ad (4 * r + 3)), .inl (t 0, 49, .inl ((K r).2.2.2.2)))] ++ jpoolx t ad K r) (by rw [hk]) ?_
  refine jr_callV (q0 := 2) (rest := []) [.ref (ad (4 * r))] CC (jd ddX6_judgeLatest 16 rfl) (jy_X6_79 CC) (k_X5_lowestOffence l t hfl g0 g1 g2 fl ce (ad (4 * r)) (ad (4 * r + 1)) (ad (4 * r + 2)) (ad (4 * r + 3)) ((K r).1) ((K r).2.1) k ((K r).2.2.2.1) ((K r).2.2.2.2) hk9) [2, 3, 4, 5, 6, 7, 8] rfl (by decide) rfl rfl rfl rfl (by decide) (Nat.le_of_ble_eq_true rfl) (by rintro v u h; rcases h with ⟨rfl, rfl⟩ <;> rfl) (fun _ _ h => h.elim) (fun _ _ h => h.elim) (fun v u h => ?_)
  rcases h with ⟨rfl, rfl⟩
  refine jr_ws (jput ([(x2, .inr (5, jmem M ca cg)), (ca, .inl (t 2, 8, .inr (.inr (.inr (.inr (jcaps ad)))))), (g0, .inr (4, [.ref g1, .ref g2])), (g1, .inl (t 0, 49, .inl fl)), (g2, .inl (t 0, 49, .inl ce)), ((ad (4 * r)), .inr (0, [.ref (ad (4 * r + 1)), .int ((K r).1), .int ((K r).2.1), .int (nI k)])), ((ad (4 * r + 1)), .inl (t 1, 2, .inr (.inr (.inr (.inr (jr2 (ad (4 * r + 2)) (ad (4 * r + 3)))))))), ((ad (4 * r + 2)), .inl (t 0, 49, .inl ((K r).2.2.2.1))), ((ad (4 * r + 3)), .inl (t 0, 49, .inl ((K r).2.2.2.2)))] ++ jpoolx t ad K r) [2, 3, 4, 5, 6, 7, 8] [(g0, .inr (4, [.ref g1, .ref g2])), (g1, .inl (t 0, 49, .inl fl)), (g2, .inl (t 0, 49, .inl ce)), ((ad (4 * r)), .inr (0, [.ref (ad (4 * r + 1)), .int ((K r).1), .int ((K r).2.1), .int (nI k)])), ((ad (4 * r + 1)), .inl (t 1, 2, .inr (.inr (.inr (.inr (jr2 (ad (4 * r + 2)) (ad (4 * r + 3)))))))), ((ad (4 * r + 2)), .inl (t 0, 49, .inl ((K r).2.2.2.1))), ((ad (4 * r + 3)), .inl (t 0, 49, .inl ((K r).2.2.2.2)))]) (jdrop_nil (by rfl)) ?_
  refine jr_norm ([(x2, .inr (5, jmem M ca cg)), (ca, .inl (t 2, 8, .inr (.inr (.inr (.inr (jcaps ad)))))), (g0, .inr (4, [.ref g1, .ref g2])), (g1, .inl (t 0, 49, .inl fl)), (g2, .inl (t 0, 49, .inl ce)), ((ad (4 * r)), .inr (0, [.ref (ad (4 * r + 1)), .int ((K r).1), .int ((K r).2.1), .int (nI k)])), ((ad (4 * r + 1)), .inl (t 1, 2, .inr (.inr (.inr (.inr (jr2 (ad (4 * r + 2)) (ad (4 * r + 3)))))))), ((ad (4 * r + 2)), .inl (t 0, 49, .inl ((K r).2.2.2.1))), ((ad (4 * r + 3)), .inl (t 0, 49, .inl ((K r).2.2.2.2)))] ++ jpoolx t ad K r) [.int (jlow ((K r).2.2.2.1) fl ce k 0)] 28 0 0 rfl rfl rfl rfl rfl ?_
  refine jr_istore_n 3 [(3, .int (jlow ((K r).2.2.2.1) fl ce k 0)), (2, .int (nI r)), (0, .ref x2), (1, .ref g0)] CC (jd ddX6_judgeLatest 17 rfl) rfl (by decide) rfl ?_
  refine jr_iload_n CC (jd ddX6_judgeLatest 18 rfl) 0 rfl ?_
  refine jr_iconst (v := (-1)) CC (jd ddX6_judgeLatest 19 rfl) (by decide) ?_
  refine jr_icmp_ne 35 CC (jd ddX6_judgeLatest 20 rfl) (by decide) (fun c1 => ?_) (fun c1 => ?_)
  · refine jr_aload_n CC (jd ddX6_judgeLatest 22 rfl) 2 rfl ?_
    refine jr_dup CC (jd ddX6_judgeLatest 23 rfl) rfl ?_
    refine jr_get (v := .int (M 9)) CC (jd ddX6_judgeLatest 24 rfl) (jf_X6_42 CC) 0 rfl rfl ?_
    refine jr_iconst (v := 1) CC (jd ddX6_judgeLatest 25 rfl) (by decide) ?_
    refine jr_iadd CC (jd ddX6_judgeLatest 26 rfl) ?_
    refine jr_put CC (jd ddX6_judgeLatest 27 rfl) (jf_X6_42 CC) 0 rfl rfl rfl (Nat.le_of_ble_eq_true rfl) ?_
    refine jr_ws ([(x2, .inr (5, jmem (upd M 9 ((M 9) + 1)) ca cg)), (ca, .inl (t 2, 8, .inr (.inr (.inr (.inr (jcaps ad)))))), (g0, .inr (4, [.ref g1, .ref g2])), (g1, .inl (t 0, 49, .inl fl)), (g2, .inl (t 0, 49, .inl ce)), ((ad (4 * r)), .inr (0, [.ref (ad (4 * r + 1)), .int ((K r).1), .int ((K r).2.1), .int (nI k)])), ((ad (4 * r + 1)), .inl (t 1, 2, .inr (.inr (.inr (.inr (jr2 (ad (4 * r + 2)) (ad (4 * r + 3)))))))), ((ad (4 * r + 2)), .inl (t 0, 49, .inl ((K r).2.2.2.1))), ((ad (4 * r + 3)), .inl (t 0, 49, .inl ((K r).2.2.2.2)))] ++ jpoolx t ad K r) rfl ?_
    refine jr_pc (pc' := 45) rfl ?_
    refine jr_aload_n CC (jd ddX6_judgeLatest 28 rfl) 2 rfl ?_
    refine jr_get (v := .int (M 10)) CC (jd ddX6_judgeLatest 29 rfl) (jf_X6_24 CC) 0 rfl rfl ?_
    refine jr_iconst (v := (-1)) CC (jd ddX6_judgeLatest 30 rfl) (by decide) ?_
    refine jr_icmp_ne 63 CC (jd ddX6_judgeLatest 31 rfl) (by decide) (fun c2 => ?_) (fun c2 => ?_)
    · refine jr_ws ([(x2, .inr (5, jmem (upd M 9 ((M 9) + 1)) ca cg)), (ca, .inl (t 2, 8, .inr (.inr (.inr (.inr (jcaps ad)))))), (g0, .inr (4, [.ref g1, .ref g2])), (g1, .inl (t 0, 49, .inl fl)), (g2, .inl (t 0, 49, .inl ce)), ((ad (4 * r)), .inr (0, [.ref (ad (4 * r + 1)), .int ((K r).1), .int ((K r).2.1), .int ((K r).2.2.1)])), ((ad (4 * r + 1)), .inl (t 1, 2, .inr (.inr (.inr (.inr (jr2 (ad (4 * r + 2)) (ad (4 * r + 3)))))))), ((ad (4 * r + 2)), .inl (t 0, 49, .inl ((K r).2.2.2.1))), ((ad (4 * r + 3)), .inl (t 0, 49, .inl ((K r).2.2.2.2)))] ++ jpoolx t ad K r) (by rw [hk]) ?_
      refine jr_ws ([(x2, .inr (5, jmem (upd M 9 ((M 9) + 1)) ca cg)), (ca, .inl (t 2, 8, .inr (.inr (.inr (.inr (jcaps ad)))))), (g0, .inr (4, [.ref g1, .ref g2])), (g1, .inl (t 0, 49, .inl fl)), (g2, .inl (t 0, 49, .inl ce))] ++ (jcapw t ad r (((K r).1), ((K r).2.1), (K r).2.2.1, ((K r).2.2.2.1), ((K r).2.2.2.2)) ++ jpoolx t ad K r)) rfl ?_
      refine jr_unfocus [(x2, .inr (5, jmem (upd M 9 ((M 9) + 1)) ca cg)), (ca, .inl (t 2, 8, .inr (.inr (.inr (.inr (jcaps ad)))))), (g0, .inr (4, [.ref g1, .ref g2])), (g1, .inl (t 0, 49, .inl fl)), (g2, .inl (t 0, 49, .inl ce))] r hr ?_
      exact jr_vret CC MM (jd ddX6_judgeLatest 39 rfl) rfl (by decide) (by decide) (Or.inl ⟨c1, c2, rfl, rfl⟩)
    · refine jr_aload_n CC (jd ddX6_judgeLatest 32 rfl) 2 rfl ?_
      refine jr_bipush (v := 100) CC (jd ddX6_judgeLatest 33 rfl) (by decide) ?_
      refine jr_iload_n CC (jd ddX6_judgeLatest 34 rfl) 1 rfl ?_
      refine jr_imul CC (jd ddX6_judgeLatest 35 rfl) ?_
      refine jr_iload_n CC (jd ddX6_judgeLatest 36 rfl) 0 rfl ?_
      refine jr_iadd CC (jd ddX6_judgeLatest 37 rfl) ?_
      refine jr_pc (pc' := 60) rfl ?_
      refine jr_put CC (jd ddX6_judgeLatest 38 rfl) (jf_X6_24 CC) 0 rfl rfl rfl (Nat.le_of_ble_eq_true rfl) ?_
      refine jr_ws ([(x2, .inr (5, jmem (upd (upd M 9 ((M 9) + 1)) 10 ((100 * (nI r)) + (jlow ((K r).2.2.2.1) fl ce k 0))) ca cg)), (ca, .inl (t 2, 8, .inr (.inr (.inr (.inr (jcaps ad)))))), (g0, .inr (4, [.ref g1, .ref g2])), (g1, .inl (t 0, 49, .inl fl)), (g2, .inl (t 0, 49, .inl ce)), ((ad (4 * r)), .inr (0, [.ref (ad (4 * r + 1)), .int ((K r).1), .int ((K r).2.1), .int (nI k)])), ((ad (4 * r + 1)), .inl (t 1, 2, .inr (.inr (.inr (.inr (jr2 (ad (4 * r + 2)) (ad (4 * r + 3)))))))), ((ad (4 * r + 2)), .inl (t 0, 49, .inl ((K r).2.2.2.1))), ((ad (4 * r + 3)), .inl (t 0, 49, .inl ((K r).2.2.2.2)))] ++ jpoolx t ad K r) rfl ?_
      refine jr_ws ([(x2, .inr (5, jmem (upd (upd M 9 ((M 9) + 1)) 10 ((100 * (nI r)) + (jlow ((K r).2.2.2.1) fl ce k 0))) ca cg)), (ca, .inl (t 2, 8, .inr (.inr (.inr (.inr (jcaps ad)))))), (g0, .inr (4, [.ref g1, .ref g2])), (g1, .inl (t 0, 49, .inl fl)), (g2, .inl (t 0, 49, .inl ce)), ((ad (4 * r)), .inr (0, [.ref (ad (4 * r + 1)), .int ((K r).1), .int ((K r).2.1), .int ((K r).2.2.1)])), ((ad (4 * r + 1)), .inl (t 1, 2, .inr (.inr (.inr (.inr (jr2 (ad (4 * r + 2)) (ad (4 * r + 3)))))))), ((ad (4 * r + 2)), .inl (t 0, 49, .inl ((K r).2.2.2.1))), ((ad (4 * r + 3)), .inl (t 0, 49, .inl ((K r).2.2.2.2)))] ++ jpoolx t ad K r) (by rw [hk]) ?_
      refine jr_ws ([(x2, .inr (5, jmem (upd (upd M 9 ((M 9) + 1)) 10 ((100 * (nI r)) + (jlow ((K r).2.2.2.1) fl ce k 0))) ca cg)), (ca, .inl (t 2, 8, .inr (.inr (.inr (.inr (jcaps ad)))))), (g0, .inr (4, [.ref g1, .ref g2])), (g1, .inl (t 0, 49, .inl fl)), (g2, .inl (t 0, 49, .inl ce))] ++ (jcapw t ad r (((K r).1), ((K r).2.1), (K r).2.2.1, ((K r).2.2.2.1), ((K r).2.2.2.2)) ++ jpoolx t ad K r)) rfl ?_
      refine jr_unfocus [(x2, .inr (5, jmem (upd (upd M 9 ((M 9) + 1)) 10 ((100 * (nI r)) + (jlow ((K r).2.2.2.1) fl ce k 0))) ca cg)), (ca, .inl (t 2, 8, .inr (.inr (.inr (.inr (jcaps ad)))))), (g0, .inr (4, [.ref g1, .ref g2])), (g1, .inl (t 0, 49, .inl fl)), (g2, .inl (t 0, 49, .inl ce))] r hr ?_
      exact jr_vret CC MM (jd ddX6_judgeLatest 39 rfl) rfl (by decide) (by decide) (Or.inr (Or.inl ⟨c1, c2, rfl, rfl⟩))
  · refine jr_ws ([(x2, .inr (5, jmem M ca cg)), (ca, .inl (t 2, 8, .inr (.inr (.inr (.inr (jcaps ad)))))), (g0, .inr (4, [.ref g1, .ref g2])), (g1, .inl (t 0, 49, .inl fl)), (g2, .inl (t 0, 49, .inl ce)), ((ad (4 * r)), .inr (0, [.ref (ad (4 * r + 1)), .int ((K r).1), .int ((K r).2.1), .int ((K r).2.2.1)])), ((ad (4 * r + 1)), .inl (t 1, 2, .inr (.inr (.inr (.inr (jr2 (ad (4 * r + 2)) (ad (4 * r + 3)))))))), ((ad (4 * r + 2)), .inl (t 0, 49, .inl ((K r).2.2.2.1))), ((ad (4 * r + 3)), .inl (t 0, 49, .inl ((K r).2.2.2.2)))] ++ jpoolx t ad K r) (by rw [hk]) ?_
    refine jr_ws ([(x2, .inr (5, jmem M ca cg)), (ca, .inl (t 2, 8, .inr (.inr (.inr (.inr (jcaps ad)))))), (g0, .inr (4, [.ref g1, .ref g2])), (g1, .inl (t 0, 49, .inl fl)), (g2, .inl (t 0, 49, .inl ce))] ++ (jcapw t ad r (((K r).1), ((K r).2.1), (K r).2.2.1, ((K r).2.2.2.1), ((K r).2.2.2.2)) ++ jpoolx t ad K r)) rfl ?_
    refine jr_unfocus [(x2, .inr (5, jmem M ca cg)), (ca, .inl (t 2, 8, .inr (.inr (.inr (.inr (jcaps ad)))))), (g0, .inr (4, [.ref g1, .ref g2])), (g1, .inl (t 0, 49, .inl fl)), (g2, .inl (t 0, 49, .inl ce))] r hr ?_
    exact jr_vret CC MM (jd ddX6_judgeLatest 21 rfl) rfl (by decide) (by decide) (Or.inr (Or.inr ⟨c1, rfl, rfl⟩))
