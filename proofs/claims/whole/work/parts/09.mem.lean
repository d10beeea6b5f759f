def jset (a i : Nat) (v : Int32) (f : Nat → Int32) : Nat → Int32 := fun j => if a ≤ j ∧ j < i then v else f j
theorem jset_0 (a : Nat) (v : Int32) (f : Nat → Int32) : jset a a v f = f := by
  funext j
  unfold jset
  rw [if_neg (by omega)]
theorem jset_s {a i : Nat} (h : a ≤ i) (v : Int32) (f : Nat → Int32) : upd (jset a i v f) i v = jset a (i + 1) v f := by
  funext j
  unfold upd jset
  by_cases h1 : j = i
  · subst h1; simp [h]
  · by_cases h2 : a ≤ j ∧ j < i
    · rw [if_neg h1, if_pos h2, if_pos (by omega)]
    · rw [if_neg h1, if_neg h2, if_neg (by omega)]
/-- the first offence among the d values from i on -/
def jlow (f fl ce : Nat → Int32) : Nat → Nat → Int32
  | 0, _ => -1
  | d + 1, i => if f i < fl i then nI i else if f i ≤ ce i then jlow f fl ce d (i + 1) else nI i
def jcp (n P q : Nat) (h f : Nat → Int32) : Nat → Int32 := fun j => if j < q then h ((n - (P - j)) % 16) else f j
theorem jcp_0 (n P : Nat) (h f : Nat → Int32) : jcp n P 0 h f = f := rfl
theorem jcp_s {n P q : Nat} (h f : Nat → Int32) : upd (jcp n P q h f) q (h ((n - (P - q)) % 16)) = jcp n P (q + 1) h f := by
  funext j
  unfold upd jcp
  by_cases h1 : j = q
  · subst h1; simp
  · by_cases h2 : j < q
    · rw [if_neg h1, if_pos h2, if_pos (by omega)]
    · rw [if_neg h1, if_neg h2, if_neg (by omega)]
def hO (M : Nat → Int32) (n : Int32) : Int32 := if M 7 = 0 then 0 else if M 6 < n - M 8 then 0 else 1
theorem hO01 (M : Nat → Int32) (n : Int32) : hO M n = 0 ∨ hO M n = 1 := by
  unfold hO; (repeat' split) <;> first | exact Or.inl rfl | exact Or.inr rfl
/-- whether a trigger may be, when no record is being caught -/
def mayT (M : Nat → Int32) (n : Int32) : Int32 := if M 3 = 0 then 0 else if 8 ≤ M 1 then 0 else if n < M 4 then 0 else if hO M n = 0 then 1 else 0
theorem mayT01 (M : Nat → Int32) (n : Int32) : mayT M n = 0 ∨ mayT M n = 1 := by
  unfold mayT; (repeat' split) <;> first | exact Or.inl rfl | exact Or.inr rfl
set_option maxHeartbeats 8000000 in
set_option maxRecDepth 100000 in
theorem k_X5_limit (l : Launch) (t : Nat → ClassId) (hfl : l.stackTraces = false) (g0 : Nat) (g1 : Nat) (g2 : Nat) (fl : Nat → Int32) (ce : Nat → Int32) (a : Nat) (b : Nat) (x : Int32) (y : Int32) (hab : a ≤ b) (hb : b < 49) : jKx l t yX5_limit (Cond.code yX5_limit cX5_limit 6 none :: jWS) { frames := 0, cells := 0, slots := 0, locals := 0 } [.ref g0, .int (nI a), .int (nI b), .int x, .int y] [(g0, .inr (4, [.ref g1, .ref g2])), (g1, .inl (t 0, 49, .inl fl)), (g2, .inl (t 0, 49, .inl ce))] (fun vv uu => (vv = none ∧ uu = [(g0, .inr (4, [.ref g1, .ref g2])), (g1, .inl (t 0, 49, .inl (jset a (b + 1) x fl))), (g2, .inl (t 0, 49, .inl (jset a (b + 1) y ce)))])) (fun _ _ => False) := by
  refine jK_of hfl (by decide +kernel) (Nat.le_of_ble_eq_true rfl) ?_
  intro p e s m args below meth c D A Q CC MM
  refine jr_norm0 [(0, .ref g0), (1, .int (nI a)), (2, .int (nI b)), (3, .int x), (4, .int y)] rfl ?_
  refine jr_ws [(g0, .inr (4, [.ref g1, .ref g2])), (g1, .inl (t 0, 49, .inl (jset a a x fl))), (g2, .inl (t 0, 49, .inl (jset a a y ce)))] (by rw [jset_0, jset_0]) ?_
  refine jr_iload_n CC (jd ddX5_limit 0 rfl) 1 rfl ?_
  refine jr_istore [(5, .int (nI a)), (0, .ref g0), (1, .int (nI a)), (2, .int (nI b)), (3, .int x), (4, .int y)] CC (jd ddX5_limit 1 rfl) (by decide) rfl ?_
  have hL1 : ∀ (d9 : Nat) (i : Nat) (ha : a ≤ i) (hi : i ≤ b + 1), b + 1 - i < d9 → J p l e { frames := 0, cells := 0, slots := 0, locals := 0 } s m args below meth c D A 6 Q [(g0, .inr (4, [.ref g1, .ref g2])), (g1, .inl (t 0, 49, .inl (jset a i x fl))), (g2, .inl (t 0, 49, .inl (jset a i y ce)))] [(0, .ref g0), (1, .int (nI a)), (2, .int (nI b)), (3, .int x), (4, .int y), (5, .int (nI i))] 3 [] 0 0 := by
    intro d9
    induction d9 with
    | zero => intro i ha hi hmu; exact absurd hmu (Nat.not_lt_zero _)
    | succ d9 ih3 =>
      intro i ha hi hmu
      refine jr_iload CC (jd ddX5_limit 2 rfl) 5 rfl ?_
      refine jr_iload_n CC (jd ddX5_limit 3 rfl) 2 rfl ?_
      refine jr_icmp_gt 32 CC (jd ddX5_limit 4 rfl) (by decide) (fun c2 => ?_) (fun c2 => ?_)
      · have n2 := jlt_of (a := b) (b := i) c2 (by omega) (by omega)
        exact jr_vret CC MM (jd ddX5_limit 17 rfl) rfl (by decide) (by decide) ⟨rfl, by rw [show b + 1 = i by omega]⟩
      · have n2 := jlt_not (a := b) (b := i) c2 (by omega) (by omega)
        refine jr_aload_n CC (jd ddX5_limit 5 rfl) 0 rfl ?_
        refine jr_get (v := .ref g1) CC (jd ddX5_limit 6 rfl) (jf_X5_9 CC) 0 rfl rfl ?_
        refine jr_iload CC (jd ddX5_limit 7 rfl) 5 rfl ?_
        refine jr_iload_n CC (jd ddX5_limit 8 rfl) 3 rfl ?_
        refine jr_iastN CC (jd ddX5_limit 9 rfl) 1 i rfl rfl (by omega) (by decide) ?_
        refine jr_aload_n CC (jd ddX5_limit 10 rfl) 0 rfl ?_
        refine jr_get (v := .ref g2) CC (jd ddX5_limit 11 rfl) (jf_X5_15 CC) 0 rfl rfl ?_
        refine jr_pc (pc' := 21) rfl ?_
        refine jr_iload CC (jd ddX5_limit 12 rfl) 5 rfl ?_
        refine jr_iload CC (jd ddX5_limit 13 rfl) 4 rfl ?_
        refine jr_iastN CC (jd ddX5_limit 14 rfl) 2 i rfl rfl (by omega) (by decide) ?_
        refine jr_iinc [(5, .int (nI (i + 1))), (0, .ref g0), (1, .int (nI a)), (2, .int (nI b)), (3, .int x), (4, .int y)] CC (jd ddX5_limit 15 rfl) 5 rfl (nI_1 _) (by decide) rfl ?_
        refine jr_goto 3 CC (jd ddX5_limit 16 rfl) (by decide) ?_
        refine jr_ws [(g0, .inr (4, [.ref g1, .ref g2])), (g1, .inl (t 0, 49, .inl (jset a (i + 1) x fl))), (g2, .inl (t 0, 49, .inl (jset a (i + 1) y ce)))] (by rw [← jset_s ha, ← jset_s ha]; rfl) ?_
        refine jr_norm [(g0, .inr (4, [.ref g1, .ref g2])), (g1, .inl (t 0, 49, .inl (jset a (i + 1) x fl))), (g2, .inl (t 0, 49, .inl (jset a (i + 1) y ce)))] [] 3 0 0 rfl rfl rfl rfl rfl ?_
        refine jr_lv [1, 2, 3, 4, 5, 0] [(0, .ref g0), (1, .int (nI a)), (2, .int (nI b)), (3, .int x), (4, .int y), (5, .int (nI (i + 1)))] rfl ?_
        exact ih3 (i + 1) (by omega) (by omega) (by omega)
  refine jr_norm [(g0, .inr (4, [.ref g1, .ref g2])), (g1, .inl (t 0, 49, .inl (jset a a x fl))), (g2, .inl (t 0, 49, .inl (jset a a y ce)))] [] 3 0 0 rfl rfl rfl rfl rfl ?_
  refine jr_lv [1, 2, 3, 4, 5, 0] [(0, .ref g0), (1, .int (nI a)), (2, .int (nI b)), (3, .int x), (4, .int y), (5, .int (nI a))] rfl ?_
  exact hL1 (b + 1 - a + 1) a (Nat.le_refl _) (by omega) (Nat.lt_succ_self _)
set_option maxHeartbeats 8000000 in
set_option maxRecDepth 100000 in
theorem k_X5_lowestOffence (l : Launch) (t : Nat → ClassId) (hfl : l.stackTraces = false) (g0 : Nat) (g1 : Nat) (g2 : Nat) (fl : Nat → Int32) (ce : Nat → Int32) (h0 : Nat) (h1 : Nat) (h2 : Nat) (h3 : Nat) (tr : Int32) (wa : Int32) (k : Nat) (f0 : Nat → Int32) (f1 : Nat → Int32) (hk : k ≤ 49) : jKx l t yX5_lowestOffence (Cond.code yX5_lowestOffence cX5_lowestOffence 4 (some .int) :: jWS) { frames := 1, cells := 0, slots := 0, locals := 22 } [.ref g0, .ref h0] [(g0, .inr (4, [.ref g1, .ref g2])), (g1, .inl (t 0, 49, .inl fl)), (g2, .inl (t 0, 49, .inl ce)), (h0, .inr (0, [.ref h1, .int tr, .int wa, .int (nI k)])), (h1, .inl (t 1, 2, .inr (.inr (.inr (.inr (jr2 h2 h3)))))), (h2, .inl (t 0, 49, .inl f0)), (h3, .inl (t 0, 49, .inl f1))] (fun vv uu => (vv = some (.int (jlow f0 fl ce k 0)) ∧ uu = [(g0, .inr (4, [.ref g1, .ref g2])), (g1, .inl (t 0, 49, .inl fl)), (g2, .inl (t 0, 49, .inl ce)), (h0, .inr (0, [.ref h1, .int tr, .int wa, .int (nI k)])), (h1, .inl (t 1, 2, .inr (.inr (.inr (.inr (jr2 h2 h3)))))), (h2, .inl (t 0, 49, .inl f0)), (h3, .inl (t 0, 49, .inl f1))])) (fun _ _ => False) := by
  refine jK_of hfl (by decide +kernel) (Nat.le_of_ble_eq_true rfl) ?_
  intro p e s m args below meth c D A Q CC MM
  refine jr_norm0 [(0, .ref g0), (1, .ref h0)] rfl ?_
  refine jr_iconst (v := 0) CC (jd ddX5_lowestOffence 0 rfl) (by decide) ?_
  refine jr_istore_n 2 [(2, .int 0), (0, .ref g0), (1, .ref h0)] CC (jd ddX5_lowestOffence 1 rfl) rfl (by decide) rfl ?_
  have hL1 : ∀ (d9 : Nat) (i : Nat) (hi : i ≤ k) (hq : jlow f0 fl ce k 0 = jlow f0 fl ce (k - i) i), k - i < d9 → J p l e { frames := 1, cells := 0, slots := 0, locals := 22 } s m args below meth c D A 4 Q [(g0, .inr (4, [.ref g1, .ref g2])), (g1, .inl (t 0, 49, .inl fl)), (g2, .inl (t 0, 49, .inl ce)), (h0, .inr (0, [.ref h1, .int tr, .int wa, .int (nI k)])), (h1, .inl (t 1, 2, .inr (.inr (.inr (.inr (jr2 h2 h3)))))), (h2, .inl (t 0, 49, .inl f0)), (h3, .inl (t 0, 49, .inl f1))] [(0, .ref g0), (1, .ref h0), (2, .int (nI i))] 2 [] 0 0 := by
    intro d9
    induction d9 with
    | zero => intro i hi hq hmu; exact absurd hmu (Nat.not_lt_zero _)
    | succ d9 ih2 =>
      intro i hi hq hmu
      refine jr_iload_n CC (jd ddX5_lowestOffence 2 rfl) 2 rfl ?_
      refine jr_aload_n CC (jd ddX5_lowestOffence 3 rfl) 1 rfl ?_
      refine jr_get (v := .int (nI k)) CC (jd ddX5_lowestOffence 4 rfl) (jf_X5_24 CC) 3 rfl rfl ?_
      refine jr_icmp_ge 45 CC (jd ddX5_lowestOffence 5 rfl) (by decide) (fun c2 => ?_) (fun c2 => ?_)
      · have n2 := jle_of (a := k) (b := i) c2 (by omega) (by omega)
        refine jr_iconst (v := (-1)) CC (jd ddX5_lowestOffence 27 rfl) (by decide) ?_
        exact jr_iret CC MM (jd ddX5_lowestOffence 28 rfl) rfl (by decide) (by decide) ⟨by rw [hq, show k - i = 0 by omega]; rfl, rfl⟩
      · have n2 := jle_not (a := k) (b := i) c2 (by omega) (by omega)
        refine jr_aload_n CC (jd ddX5_lowestOffence 6 rfl) 1 rfl ?_
        refine jr_iconst (v := 0) CC (jd ddX5_lowestOffence 7 rfl) (by decide) ?_
        refine jr_iload_n CC (jd ddX5_lowestOffence 8 rfl) 2 rfl ?_
        refine jr_callV (q0 := 3) (rest := []) [.int 0, .int (nI i)] CC (jd ddX5_lowestOffence 9 rfl) (jy_X5_30 CC) (k_X0_at l t hfl h0 h1 h2 h3 tr wa (nI k) f0 f1 0 i (by first | assumption | omega | decide)) [3, 4, 5, 6] rfl (by decide) rfl rfl rfl rfl (by decide) (Nat.le_of_ble_eq_true rfl) (by rintro v u h; rcases h with ⟨h0, rfl, rfl⟩ | ⟨h0, rfl, rfl⟩ <;> rfl) (fun _ _ h => h.elim) (fun _ _ h => h.elim) (fun v u h => ?_)
        rcases h with ⟨c3, rfl, rfl⟩ | ⟨c4, rfl, rfl⟩
        · exact absurd c3 (by decide)
        · refine jr_norm [(g0, .inr (4, [.ref g1, .ref g2])), (g1, .inl (t 0, 49, .inl fl)), (g2, .inl (t 0, 49, .inl ce)), (h0, .inr (0, [.ref h1, .int tr, .int wa, .int (nI k)])), (h1, .inl (t 1, 2, .inr (.inr (.inr (.inr (jr2 h2 h3)))))), (h2, .inl (t 0, 49, .inl f0)), (h3, .inl (t 0, 49, .inl f1))] [.int (f0 i)] 16 0 0 rfl rfl rfl rfl rfl ?_
          refine jr_istore_n 3 [(3, .int (f0 i)), (0, .ref g0), (1, .ref h0), (2, .int (nI i))] CC (jd ddX5_lowestOffence 10 rfl) rfl (by decide) rfl ?_
          refine jr_iload_n CC (jd ddX5_lowestOffence 11 rfl) 0 rfl ?_
          refine jr_aload_n CC (jd ddX5_lowestOffence 12 rfl) 1 rfl ?_
          refine jr_get (v := .ref g1) CC (jd ddX5_lowestOffence 13 rfl) (jf_X5_9 CC) 0 rfl rfl ?_
          refine jr_iload_n CC (jd ddX5_lowestOffence 14 rfl) 3 rfl ?_
          refine jr_ialdN CC (jd ddX5_lowestOffence 15 rfl) 1 i rfl rfl (by omega) (by decide) ?_
          refine jr_icmp_lt 37 CC (jd ddX5_lowestOffence 16 rfl) (by decide) (fun c5 => ?_) (fun c5 => ?_)
          · refine jr_iload_n CC (jd ddX5_lowestOffence 23 rfl) 3 rfl ?_
            exact jr_iret CC MM (jd ddX5_lowestOffence 24 rfl) rfl (by decide) (by decide) ⟨by rw [hq, show k - i = (k - i - 1) + 1 by omega]; simp [jlow, c2, c4, c5], rfl⟩
          · refine jr_iload_n CC (jd ddX5_lowestOffence 17 rfl) 0 rfl ?_
            refine jr_aload_n CC (jd ddX5_lowestOffence 18 rfl) 1 rfl ?_
            refine jr_get (v := .ref g2) CC (jd ddX5_lowestOffence 19 rfl) (jf_X5_15 CC) 0 rfl rfl ?_
            refine jr_pc (pc' := 32) rfl ?_
            refine jr_iload_n CC (jd ddX5_lowestOffence 20 rfl) 3 rfl ?_
            refine jr_ialdN CC (jd ddX5_lowestOffence 21 rfl) 2 i rfl rfl (by omega) (by decide) ?_
            refine jr_icmp_le 39 CC (jd ddX5_lowestOffence 22 rfl) (by decide) (fun c6 => ?_) (fun c6 => ?_)
            · refine jr_iinc [(2, .int (nI (i + 1))), (3, .int (f0 i)), (0, .ref g0), (1, .ref h0)] CC (jd ddX5_lowestOffence 25 rfl) 3 rfl (nI_1 _) (by decide) rfl ?_
              refine jr_goto 2 CC (jd ddX5_lowestOffence 26 rfl) (by decide) ?_
              refine jr_norm [(g0, .inr (4, [.ref g1, .ref g2])), (g1, .inl (t 0, 49, .inl fl)), (g2, .inl (t 0, 49, .inl ce)), (h0, .inr (0, [.ref h1, .int tr, .int wa, .int (nI k)])), (h1, .inl (t 1, 2, .inr (.inr (.inr (.inr (jr2 h2 h3)))))), (h2, .inl (t 0, 49, .inl f0)), (h3, .inl (t 0, 49, .inl f1))] [] 2 0 0 rfl rfl rfl rfl rfl ?_
              refine jr_lv [2, 3, 0] [(0, .ref g0), (1, .ref h0), (2, .int (nI (i + 1)))] rfl ?_
              exact ih2 (i + 1) (by omega) (by rw [hq, show k - i = (k - (i + 1)) + 1 by omega]; simp [jlow, c2, c4, c5, c6]) (by omega)
            · refine jr_iload_n CC (jd ddX5_lowestOffence 23 rfl) 3 rfl ?_
              exact jr_iret CC MM (jd ddX5_lowestOffence 24 rfl) rfl (by decide) (by decide) ⟨by rw [hq, show k - i = (k - i - 1) + 1 by omega]; simp [jlow, c2, c4, c5, c6], rfl⟩
  refine jr_norm [(g0, .inr (4, [.ref g1, .ref g2])), (g1, .inl (t 0, 49, .inl fl)), (g2, .inl (t 0, 49, .inl ce)), (h0, .inr (0, [.ref h1, .int tr, .int wa, .int (nI k)])), (h1, .inl (t 1, 2, .inr (.inr (.inr (.inr (jr2 h2 h3)))))), (h2, .inl (t 0, 49, .inl f0)), (h3, .inl (t 0, 49, .inl f1))] [] 2 0 0 rfl rfl rfl rfl rfl ?_
  refine jr_lv [1, 2, 0] [(0, .ref g0), (1, .ref h0), (2, .int (nI 0))] rfl ?_
  exact hL1 (k - 0 + 1) 0 (Nat.zero_le _) rfl (Nat.lt_succ_self _)
set_option maxHeartbeats 8000000 in
set_option maxRecDepth 100000 in
theorem k_X6_beginAnew (l : Launch) (t : Nat → ClassId) (hfl : l.stackTraces = false) (x2 : Nat) (M : Nat → Int32) (ca : Nat) (cg : Option Nat) : jKx l t yX6_beginAnew (Cond.code yX6_beginAnew cX6_beginAnew 1 none :: jWS) { frames := 0, cells := 0, slots := 0, locals := 0 } [.ref x2] [(x2, .inr (5, jmem M ca cg))] (fun vv uu => (vv = none ∧ uu = [(x2, .inr (5, jmem (upd (upd (upd (upd (upd M 3 1) 1 0) 7 0) 9 0) 10 (-1)) ca none))])) (fun _ _ => False) := by
  refine jK_of hfl (by decide +kernel) (Nat.le_of_ble_eq_true rfl) ?_
  intro p e s m args below meth c D A Q CC MM
  refine jr_norm0 [(0, .ref x2)] rfl ?_
  refine jr_aload_n CC (jd ddX6_beginAnew 0 rfl) 0 rfl ?_
  refine jr_iconst (v := 1) CC (jd ddX6_beginAnew 1 rfl) (by decide) ?_
  refine jr_put CC (jd ddX6_beginAnew 2 rfl) (jf_X6_28 CC) 0 rfl rfl rfl (Nat.le_of_ble_eq_true rfl) ?_
  refine jr_ws [(x2, .inr (5, jmem (upd M 3 1) ca cg))] rfl ?_
  refine jr_aload_n CC (jd ddX6_beginAnew 3 rfl) 0 rfl ?_
  refine jr_null CC (jd ddX6_beginAnew 4 rfl) ?_
  refine jr_put CC (jd ddX6_beginAnew 5 rfl) (jf_X6_32 CC) 0 rfl rfl rfl (Nat.le_of_ble_eq_true rfl) ?_
  refine jr_ws [(x2, .inr (5, jmem (upd M 3 1) ca none))] rfl ?_
  refine jr_aload_n CC (jd ddX6_beginAnew 6 rfl) 0 rfl ?_
  refine jr_iconst (v := 0) CC (jd ddX6_beginAnew 7 rfl) (by decide) ?_
  refine jr_put CC (jd ddX6_beginAnew 8 rfl) (jf_X6_36 CC) 0 rfl rfl rfl (Nat.le_of_ble_eq_true rfl) ?_
  refine jr_ws [(x2, .inr (5, jmem (upd (upd M 3 1) 1 0) ca none))] rfl ?_
  refine jr_aload_n CC (jd ddX6_beginAnew 9 rfl) 0 rfl ?_
  refine jr_pc (pc' := 16) rfl ?_
  refine jr_iconst (v := 0) CC (jd ddX6_beginAnew 10 rfl) (by decide) ?_
  refine jr_put CC (jd ddX6_beginAnew 11 rfl) (jf_X6_39 CC) 0 rfl rfl rfl (Nat.le_of_ble_eq_true rfl) ?_
  refine jr_ws [(x2, .inr (5, jmem (upd (upd (upd M 3 1) 1 0) 7 0) ca none))] rfl ?_
  refine jr_aload_n CC (jd ddX6_beginAnew 12 rfl) 0 rfl ?_
  refine jr_iconst (v := 0) CC (jd ddX6_beginAnew 13 rfl) (by decide) ?_
  refine jr_put CC (jd ddX6_beginAnew 14 rfl) (jf_X6_42 CC) 0 rfl rfl rfl (Nat.le_of_ble_eq_true rfl) ?_
  refine jr_ws [(x2, .inr (5, jmem (upd (upd (upd (upd M 3 1) 1 0) 7 0) 9 0) ca none))] rfl ?_
  refine jr_aload_n CC (jd ddX6_beginAnew 15 rfl) 0 rfl ?_
  refine jr_iconst (v := (-1)) CC (jd ddX6_beginAnew 16 rfl) (by decide) ?_
  refine jr_put CC (jd ddX6_beginAnew 17 rfl) (jf_X6_24 CC) 0 rfl rfl rfl (Nat.le_of_ble_eq_true rfl) ?_
  refine jr_ws [(x2, .inr (5, jmem (upd (upd (upd (upd (upd M 3 1) 1 0) 7 0) 9 0) 10 (-1)) ca none))] rfl ?_
  exact jr_vret CC MM (jd ddX6_beginAnew 18 rfl) rfl (by decide) (by decide) ⟨rfl, rfl⟩
set_option maxHeartbeats 8000000 in
set_option maxRecDepth 100000 in
theorem k_X6_mayTrigger (l : Launch) (t : Nat → ClassId) (hfl : l.stackTraces = false) (x2 : Nat) (M : Nat → Int32) (ca : Nat) (nr : Int32) : jKx l t yX6_mayTrigger (Cond.code yX6_mayTrigger cX6_mayTrigger 3 (some .boolean) :: jWS) { frames := 0, cells := 0, slots := 0, locals := 0 } [.ref x2, .int nr] [(x2, .inr (5, jmem M ca none))] (fun vv uu => (vv = some (.int (mayT M nr)) ∧ uu = [(x2, .inr (5, jmem M ca none))])) (fun _ _ => False) := by
  refine jK_of hfl (by decide +kernel) (Nat.le_of_ble_eq_true rfl) ?_
  intro p e s m args below meth c D A Q CC MM
  refine jr_norm0 [(0, .ref x2), (1, .int nr)] rfl ?_
  have hJ2 : ∀ v1 : Int32, hO M nr = v1 → J p l e { frames := 0, cells := 0, slots := 0, locals := 0 } s m args below meth c D A 3 Q [(x2, .inr (5, jmem M ca none))] [(0, .ref x2), (1, .int nr)] 25 [.int v1] 0 0 := by
    intro v1 e3
    have bv1 : v1 = 0 ∨ v1 = 1 := e3 ▸ (hO01 _ _)
    refine jr_istore_n 2 [(2, .int v1), (0, .ref x2), (1, .int nr)] CC (jd ddX6_mayTrigger 13 rfl) rfl (by decide) rfl ?_
    refine jr_aload_n CC (jd ddX6_mayTrigger 14 rfl) 1 rfl ?_
    refine jr_get (v := .int (M 3)) CC (jd ddX6_mayTrigger 15 rfl) (jf_X6_28 CC) 0 rfl rfl ?_
    refine jr_if_eq 65 CC (jd ddX6_mayTrigger 16 rfl) (by decide) (fun c4 => ?_) (fun c4 => ?_)
    · refine jr_iconst (v := 0) CC (jd ddX6_mayTrigger 32 rfl) (by decide) ?_
      exact jr_zret rfl CC MM (jd ddX6_mayTrigger 33 rfl) rfl (by decide) (by decide) ⟨by simp [mayT, e3, c4], rfl⟩
    · refine jr_aload_n CC (jd ddX6_mayTrigger 17 rfl) 1 rfl ?_
      refine jr_get (v := .null) CC (jd ddX6_mayTrigger 18 rfl) (jf_X6_32 CC) 0 rfl rfl ?_
      refine jr_ifnonnullN CC (jd ddX6_mayTrigger 19 rfl) ?_
      refine jr_aload_n CC (jd ddX6_mayTrigger 20 rfl) 1 rfl ?_
      refine jr_get (v := .int (M 1)) CC (jd ddX6_mayTrigger 21 rfl) (jf_X6_36 CC) 0 rfl rfl ?_
      refine jr_bipush (v := 8) CC (jd ddX6_mayTrigger 22 rfl) (by decide) ?_
      refine jr_pc (pc' := 46) rfl ?_
      refine jr_icmp_ge 65 CC (jd ddX6_mayTrigger 23 rfl) (by decide) (fun c5 => ?_) (fun c5 => ?_)
      · refine jr_iconst (v := 0) CC (jd ddX6_mayTrigger 32 rfl) (by decide) ?_
        exact jr_zret rfl CC MM (jd ddX6_mayTrigger 33 rfl) rfl (by decide) (by decide) ⟨by simp [mayT, e3, c4, c5], rfl⟩
      · refine jr_iload_n CC (jd ddX6_mayTrigger 24 rfl) 2 rfl ?_
        refine jr_aload_n CC (jd ddX6_mayTrigger 25 rfl) 1 rfl ?_
        refine jr_get (v := .int (M 4)) CC (jd ddX6_mayTrigger 26 rfl) (jf_X6_17 CC) 0 rfl rfl ?_
        refine jr_icmp_lt 65 CC (jd ddX6_mayTrigger 27 rfl) (by decide) (fun c6 => ?_) (fun c6 => ?_)
        · refine jr_iconst (v := 0) CC (jd ddX6_mayTrigger 32 rfl) (by decide) ?_
          exact jr_zret rfl CC MM (jd ddX6_mayTrigger 33 rfl) rfl (by decide) (by decide) ⟨by simp [mayT, e3, c4, c5, c6], rfl⟩
        · refine jr_iload_n CC (jd ddX6_mayTrigger 28 rfl) 0 rfl ?_
          refine jr_if_ne 65 CC (jd ddX6_mayTrigger 29 rfl) (by decide) (fun c7 => ?_) (fun c7 => ?_)
          · refine jr_iconst (v := 0) CC (jd ddX6_mayTrigger 32 rfl) (by decide) ?_
            exact jr_zret rfl CC MM (jd ddX6_mayTrigger 33 rfl) rfl (by decide) (by decide) ⟨by simp [mayT, e3, c4, c5, c6, c7], rfl⟩
          · refine jr_iconst (v := 1) CC (jd ddX6_mayTrigger 30 rfl) (by decide) ?_
            refine jr_goto 66 CC (jd ddX6_mayTrigger 31 rfl) (by decide) ?_
            exact jr_zret rfl CC MM (jd ddX6_mayTrigger 33 rfl) rfl (by decide) (by decide) ⟨by simp [mayT, e3, c4, c5, c6, c7], rfl⟩
  refine jr_norm [(x2, .inr (5, jmem M ca none))] [] 0 0 0 rfl rfl rfl rfl rfl ?_
  refine jr_aload_n CC (jd ddX6_mayTrigger 0 rfl) 0 rfl ?_
  refine jr_get (v := .int (M 7)) CC (jd ddX6_mayTrigger 1 rfl) (jf_X6_39 CC) 0 rfl rfl ?_
  refine jr_if_eq 24 CC (jd ddX6_mayTrigger 2 rfl) (by decide) (fun c8 => ?_) (fun c8 => ?_)
  · refine jr_iconst (v := 0) CC (jd ddX6_mayTrigger 12 rfl) (by decide) ?_
    exact hJ2 _ (by first | (simp [hO, c8]; done))
  · refine jr_iload_n CC (jd ddX6_mayTrigger 3 rfl) 1 rfl ?_
    refine jr_aload_n CC (jd ddX6_mayTrigger 4 rfl) 0 rfl ?_
    refine jr_get (v := .int (M 8)) CC (jd ddX6_mayTrigger 5 rfl) (jf_X6_66 CC) 0 rfl rfl ?_
    refine jr_isub CC (jd ddX6_mayTrigger 6 rfl) ?_
    refine jr_aload_n CC (jd ddX6_mayTrigger 7 rfl) 0 rfl ?_
    refine jr_get (v := .int (M 6)) CC (jd ddX6_mayTrigger 8 rfl) (jf_X6_69 CC) 0 rfl rfl ?_
    refine jr_icmp_gt 24 CC (jd ddX6_mayTrigger 9 rfl) (by decide) (fun c9 => ?_) (fun c9 => ?_)
    · refine jr_pc (pc' := 24) rfl ?_
      refine jr_iconst (v := 0) CC (jd ddX6_mayTrigger 12 rfl) (by decide) ?_
      exact hJ2 _ (by first | (simp [hO, c8, c9]; done))
    · refine jr_pc (pc' := 20) rfl ?_
      refine jr_iconst (v := 1) CC (jd ddX6_mayTrigger 10 rfl) (by decide) ?_
      refine jr_goto 25 CC (jd ddX6_mayTrigger 11 rfl) (by decide) ?_
      exact hJ2 _ (by first | (simp [hO, c8, c9]; done))
set_option maxHeartbeats 8000000 in
set_option maxRecDepth 100000 in
theorem k_X6_mayTrigger_c (l : Launch) (t : Nat → ClassId) (hfl : l.stackTraces = false) (x2 : Nat) (M : Nat → Int32) (ca : Nat) (g : Nat) (nr : Int32) : jKx l t yX6_mayTrigger (Cond.code yX6_mayTrigger cX6_mayTrigger 3 (some .boolean) :: jWS) { frames := 0, cells := 0, slots := 0, locals := 0 } [.ref x2, .int nr] [(x2, .inr (5, jmem M ca (some g)))] (fun vv uu => (vv = some (.int 0) ∧ uu = [(x2, .inr (5, jmem M ca (some g)))])) (fun _ _ => False) := by
  refine jK_of hfl (by decide +kernel) (Nat.le_of_ble_eq_true rfl) ?_
  intro p e s m args below meth c D A Q CC MM
  refine jr_norm0 [(0, .ref x2), (1, .int nr)] rfl ?_
  have hJ2 : ∀ v1 : Int32, hO M nr = v1 → J p l e { frames := 0, cells := 0, slots := 0, locals := 0 } s m args below meth c D A 3 Q [(x2, .inr (5, jmem M ca (some g)))] [(0, .ref x2), (1, .int nr)] 25 [.int v1] 0 0 := by
    intro v1 e3
    have bv1 : v1 = 0 ∨ v1 = 1 := e3 ▸ (hO01 _ _)
    refine jr_istore_n 2 [(2, .int v1), (0, .ref x2), (1, .int nr)] CC (jd ddX6_mayTrigger 13 rfl) rfl (by decide) rfl ?_
    refine jr_aload_n CC (jd ddX6_mayTrigger 14 rfl) 1 rfl ?_
    refine jr_get (v := .int (M 3)) CC (jd ddX6_mayTrigger 15 rfl) (jf_X6_28 CC) 0 rfl rfl ?_
    refine jr_if_eq 65 CC (jd ddX6_mayTrigger 16 rfl) (by decide) (fun c4 => ?_) (fun c4 => ?_)
    · refine jr_iconst (v := 0) CC (jd ddX6_mayTrigger 32 rfl) (by decide) ?_
      exact jr_zret rfl CC MM (jd ddX6_mayTrigger 33 rfl) rfl (by decide) (by decide) ⟨rfl, rfl⟩
    · refine jr_aload_n CC (jd ddX6_mayTrigger 17 rfl) 1 rfl ?_
      refine jr_get (v := .ref g) CC (jd ddX6_mayTrigger 18 rfl) (jf_X6_32 CC) 0 rfl rfl ?_
      refine jr_ifnonnull 65 CC (jd ddX6_mayTrigger 19 rfl) (by decide) ?_
      refine jr_iconst (v := 0) CC (jd ddX6_mayTrigger 32 rfl) (by decide) ?_
      exact jr_zret rfl CC MM (jd ddX6_mayTrigger 33 rfl) rfl (by decide) (by decide) ⟨rfl, rfl⟩
  refine jr_norm [(x2, .inr (5, jmem M ca (some g)))] [] 0 0 0 rfl rfl rfl rfl rfl ?_
  refine jr_aload_n CC (jd ddX6_mayTrigger 0 rfl) 0 rfl ?_
  refine jr_get (v := .int (M 7)) CC (jd ddX6_mayTrigger 1 rfl) (jf_X6_39 CC) 0 rfl rfl ?_
  refine jr_if_eq 24 CC (jd ddX6_mayTrigger 2 rfl) (by decide) (fun c5 => ?_) (fun c5 => ?_)
  · refine jr_iconst (v := 0) CC (jd ddX6_mayTrigger 12 rfl) (by decide) ?_
    exact hJ2 _ (by first | (simp [hO, c5]; done))
  · refine jr_iload_n CC (jd ddX6_mayTrigger 3 rfl) 1 rfl ?_
    refine jr_aload_n CC (jd ddX6_mayTrigger 4 rfl) 0 rfl ?_
    refine jr_get (v := .int (M 8)) CC (jd ddX6_mayTrigger 5 rfl) (jf_X6_66 CC) 0 rfl rfl ?_
    refine jr_isub CC (jd ddX6_mayTrigger 6 rfl) ?_
    refine jr_aload_n CC (jd ddX6_mayTrigger 7 rfl) 0 rfl ?_
    refine jr_get (v := .int (M 6)) CC (jd ddX6_mayTrigger 8 rfl) (jf_X6_69 CC) 0 rfl rfl ?_
    refine jr_icmp_gt 24 CC (jd ddX6_mayTrigger 9 rfl) (by decide) (fun c6 => ?_) (fun c6 => ?_)
    · refine jr_pc (pc' := 24) rfl ?_
      refine jr_iconst (v := 0) CC (jd ddX6_mayTrigger 12 rfl) (by decide) ?_
      exact hJ2 _ (by first | (simp [hO, c5, c6]; done))
    · refine jr_pc (pc' := 20) rfl ?_
      refine jr_iconst (v := 1) CC (jd ddX6_mayTrigger 10 rfl) (by decide) ?_
      refine jr_goto 25 CC (jd ddX6_mayTrigger 11 rfl) (by decide) ?_
      exact hJ2 _ (by first | (simp [hO, c5, c6]; done))
