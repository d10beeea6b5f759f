/-- the expression over the first i places of a record: the row, the stack, what is carried -/
def cfill (KA DA f0 f1 : Nat → Int32) (pn : Nat) (RW ST CA : Nat → Int32) : Nat → (Nat → Int32) × (Nat → Int32) × (Nat → Int32)
  | 0 => (RW, ST, CA)
  | i + 1 => (upd (cfill KA DA f0 f1 pn RW ST CA i).1 i ((crun KA DA f0 f1 i (cfill KA DA f0 f1 pn RW ST CA i).2.1 (cfill KA DA f0 f1 pn RW ST CA i).2.2 pn).2.1 0), (crun KA DA f0 f1 i (cfill KA DA f0 f1 pn RW ST CA i).2.1 (cfill KA DA f0 f1 pn RW ST CA i).2.2 pn).2.1, (crun KA DA f0 f1 i (cfill KA DA f0 f1 pn RW ST CA i).2.1 (cfill KA DA f0 f1 pn RW ST CA i).2.2 pn).2.2)
def jcopy (f : Nat → Int32) (n : Nat) (g : Nat → Int32) : Nat → Int32 := fun j => if j < n then f j else g j
theorem jcopy_0 (f g : Nat → Int32) : jcopy f 0 g = g := rfl
theorem jcopy_s (f g : Nat → Int32) (n : Nat) : upd (jcopy f n g) n (f n) = jcopy f (n + 1) g := by
  funext i
  unfold upd jcopy
  by_cases h : i = n
  · subst h; simp
  · by_cases h2 : i < n
    · simp [h, h2, Nat.lt_succ_of_lt h2]
    · simp [h, h2, show ¬ i < n + 1 by omega]
set_option maxHeartbeats 8000000 in
set_option maxRecDepth 100000 in
theorem k_X3_fill (l : Launch) (t : Nat → ClassId) (hfl : l.stackTraces = false) (x4 : Nat) (e0 : Nat) (e1 : Nat) (e2 : Nat) (e3 : Nat) (ht : Int32) (KA : Nat → Int32) (DA : Nat → Int32) (CA : Nat → Int32) (ST : Nat → Int32) (pn : Nat) (x5 : Nat) (RW : Nat → Int32) (h0 : Nat) (h1 : Nat) (h2 : Nat) (h3 : Nat) (tr : Int32) (wa : Int32) (f0 : Nat → Int32) (f1 : Nat → Int32) (kk : Nat) (hpn : pn ≤ 16) (hk : kk ≤ 49) : jKx l t yX3_fill (Cond.code yX3_fill cX3_fill 4 none :: jWS) { frames := 5, cells := 0, slots := 0, locals := 109 } [.ref x4, .ref x5, .ref h0] [(x4, .inr (2, [.ref e0, .ref e1, .ref e2, .ref e3, .int (nI pn), .int ht])), (e0, .inl (t 0, 16, .inl KA)), (e1, .inl (t 0, 16, .inl DA)), (e2, .inl (t 0, 16, .inl CA)), (e3, .inl (t 0, 16, .inl ST)), (x5, .inl (t 0, 49, .inl RW)), (h0, .inr (0, [.ref h1, .int tr, .int wa, .int (nI kk)])), (h1, .inl (t 1, 2, .inr (.inr (.inr (.inr (jr2 h2 h3)))))), (h2, .inl (t 0, 49, .inl f0)), (h3, .inl (t 0, 49, .inl f1))] (fun vv uu => (vv = none ∧ uu = [(x4, .inr (2, [.ref e0, .ref e1, .ref e2, .ref e3, .int (nI pn), .int ht])), (e0, .inl (t 0, 16, .inl KA)), (e1, .inl (t 0, 16, .inl DA)), (e2, .inl (t 0, 16, .inl ((cfill KA DA f0 f1 pn RW ST (jfill 16 0 CA) kk).2.2))), (e3, .inl (t 0, 16, .inl ((cfill KA DA f0 f1 pn RW ST (jfill 16 0 CA) kk).2.1))), (x5, .inl (t 0, 49, .inl ((cfill KA DA f0 f1 pn RW ST (jfill 16 0 CA) kk).1))), (h0, .inr (0, [.ref h1, .int tr, .int wa, .int (nI kk)])), (h1, .inl (t 1, 2, .inr (.inr (.inr (.inr (jr2 h2 h3)))))), (h2, .inl (t 0, 49, .inl f0)), (h3, .inl (t 0, 49, .inl f1))])) (fun _ _ => False) := by
  refine jK_of hfl (by decide +kernel) (Nat.le_of_ble_eq_true rfl) ?_
  intro p e s m args below meth c D A Q CC MM
  refine jr_norm0 [(0, .ref x4), (1, .ref x5), (2, .ref h0)] rfl ?_
  refine jr_aload_n CC (jd ddX3_fill 0 rfl) 0 rfl ?_
  refine jr_get (v := .ref e2) CC (jd ddX3_fill 1 rfl) (jf_X3_18 CC) 0 rfl rfl ?_
  refine jr_iconst (v := 0) CC (jd ddX3_fill 2 rfl) (by decide) ?_
  refine jr_callS (rest := []) [.ref e2, .int 0] CC (jd ddX3_fill 3 rfl) (jy_X3_31 CC) (k_J7_fill_53178 l t hfl e2 16 CA 0 (by decide)) [3] rfl (by decide) rfl rfl (by decide) (Nat.le_of_ble_eq_true rfl) (by rintro v u h; rcases h with ⟨rfl, rfl⟩ <;> rfl) (fun _ _ h => h.elim) (fun _ _ h => h.elim) (fun v u h => ?_)
  rcases h with ⟨rfl, rfl⟩
  refine jr_norm [(x4, .inr (2, [.ref e0, .ref e1, .ref e2, .ref e3, .int (nI pn), .int ht])), (e0, .inl (t 0, 16, .inl KA)), (e1, .inl (t 0, 16, .inl DA)), (e2, .inl (t 0, 16, .inl (jfill 16 0 CA))), (e3, .inl (t 0, 16, .inl ST)), (x5, .inl (t 0, 49, .inl RW)), (h0, .inr (0, [.ref h1, .int tr, .int wa, .int (nI kk)])), (h1, .inl (t 1, 2, .inr (.inr (.inr (.inr (jr2 h2 h3)))))), (h2, .inl (t 0, 49, .inl f0)), (h3, .inl (t 0, 49, .inl f1))] [] 8 0 0 rfl rfl rfl rfl rfl ?_
  refine jr_iconst (v := 0) CC (jd ddX3_fill 4 rfl) (by decide) ?_
  refine jr_istore_n 3 [(3, .int 0), (0, .ref x4), (1, .ref x5), (2, .ref h0)] CC (jd ddX3_fill 5 rfl) rfl (by decide) rfl ?_
  have hL1 : ∀ (d9 : Nat) (i : Nat) (hi : i ≤ kk), kk - i < d9 → J p l e { frames := 5, cells := 0, slots := 0, locals := 109 } s m args below meth c D A 4 Q [(x4, .inr (2, [.ref e0, .ref e1, .ref e2, .ref e3, .int (nI pn), .int ht])), (e0, .inl (t 0, 16, .inl KA)), (e1, .inl (t 0, 16, .inl DA)), (e2, .inl (t 0, 16, .inl ((cfill KA DA f0 f1 pn RW ST (jfill 16 0 CA) i).2.2))), (e3, .inl (t 0, 16, .inl ((cfill KA DA f0 f1 pn RW ST (jfill 16 0 CA) i).2.1))), (x5, .inl (t 0, 49, .inl ((cfill KA DA f0 f1 pn RW ST (jfill 16 0 CA) i).1))), (h0, .inr (0, [.ref h1, .int tr, .int wa, .int (nI kk)])), (h1, .inl (t 1, 2, .inr (.inr (.inr (.inr (jr2 h2 h3)))))), (h2, .inl (t 0, 49, .inl f0)), (h3, .inl (t 0, 49, .inl f1))] [(0, .ref x4), (1, .ref x5), (2, .ref h0), (3, .int (nI i))] 10 [] 0 0 := by
    intro d9
    induction d9 with
    | zero => intro i hi hmu; exact absurd hmu (Nat.not_lt_zero _)
    | succ d9 ih10 =>
      intro i hi hmu
      refine jr_iload_n CC (jd ddX3_fill 6 rfl) 3 rfl ?_
      refine jr_aload_n CC (jd ddX3_fill 7 rfl) 2 rfl ?_
      refine jr_get (v := .int (nI kk)) CC (jd ddX3_fill 8 rfl) (jf_X3_37 CC) 6 rfl rfl ?_
      refine jr_icmp_ge 33 CC (jd ddX3_fill 9 rfl) (by decide) (fun c2 => ?_) (fun c2 => ?_)
      · have n2 := jle_of (a := kk) (b := i) c2 (by omega) (by omega)
        exact jr_vret CC MM (jd ddX3_fill 19 rfl) rfl (by decide) (by decide) (by have e9 : i = kk := (by omega); subst e9; exact ⟨rfl, rfl⟩)
      · have n2 := jle_not (a := kk) (b := i) c2 (by omega) (by omega)
        refine jr_aload_n CC (jd ddX3_fill 10 rfl) 1 rfl ?_
        refine jr_iload_n CC (jd ddX3_fill 11 rfl) 3 rfl ?_
        refine jr_aload_n CC (jd ddX3_fill 12 rfl) 0 rfl ?_
        refine jr_aload_n CC (jd ddX3_fill 13 rfl) 2 rfl ?_
        refine jr_iload_n CC (jd ddX3_fill 14 rfl) 3 rfl ?_
        refine jr_callV (q0 := 0) (rest := [.int (nI i), .ref x5]) [.ref h0, .int (nI i)] CC (jd ddX3_fill 15 rfl) (jy_X3_42 CC) (k_X3_compute l t hfl x4 e0 e1 e2 e3 ht KA DA ((cfill KA DA f0 f1 pn RW ST (jfill 16 0 CA) i).2.2) ((cfill KA DA f0 f1 pn RW ST (jfill 16 0 CA) i).2.1) pn h0 h1 h2 h3 tr wa f0 f1 kk i hpn (by first | assumption | omega | decide)) [0, 1, 2, 3, 4, 6, 7, 8, 9] rfl (by decide) rfl rfl rfl rfl (by decide) (Nat.le_of_ble_eq_true rfl) (by rintro v u h; rcases h with ⟨rfl, rfl⟩ <;> rfl) (fun _ _ h => h.elim) (fun _ _ h => h.elim) (fun v u h => ?_)
        rcases h with ⟨rfl, rfl⟩
        refine jr_norm [(x4, .inr (2, [.ref e0, .ref e1, .ref e2, .ref e3, .int (nI pn), .int ht])), (e0, .inl (t 0, 16, .inl KA)), (e1, .inl (t 0, 16, .inl DA)), (e2, .inl (t 0, 16, .inl ((crun KA DA f0 f1 i ((cfill KA DA f0 f1 pn RW ST (jfill 16 0 CA) i).2.1) ((cfill KA DA f0 f1 pn RW ST (jfill 16 0 CA) i).2.2) pn).2.2))), (e3, .inl (t 0, 16, .inl ((crun KA DA f0 f1 i ((cfill KA DA f0 f1 pn RW ST (jfill 16 0 CA) i).2.1) ((cfill KA DA f0 f1 pn RW ST (jfill 16 0 CA) i).2.2) pn).2.1))), (x5, .inl (t 0, 49, .inl ((cfill KA DA f0 f1 pn RW ST (jfill 16 0 CA) i).1))), (h0, .inr (0, [.ref h1, .int tr, .int wa, .int (nI kk)])), (h1, .inl (t 1, 2, .inr (.inr (.inr (.inr (jr2 h2 h3)))))), (h2, .inl (t 0, 49, .inl f0)), (h3, .inl (t 0, 49, .inl f1))] [.int ((crun KA DA f0 f1 i ((cfill KA DA f0 f1 pn RW ST (jfill 16 0 CA) i).2.1) ((cfill KA DA f0 f1 pn RW ST (jfill 16 0 CA) i).2.2) pn).2.1 0), .int (nI i), .ref x5] 26 0 0 rfl rfl rfl rfl rfl ?_
        refine jr_iastN CC (jd ddX3_fill 16 rfl) 5 i rfl rfl (by omega) (by decide) ?_
        refine jr_iinc [(3, .int (nI (i + 1))), (0, .ref x4), (1, .ref x5), (2, .ref h0)] CC (jd ddX3_fill 17 rfl) 3 rfl (nI_1 _) (by decide) rfl ?_
        refine jr_goto 10 CC (jd ddX3_fill 18 rfl) (by decide) ?_
        refine jr_ws [(x4, .inr (2, [.ref e0, .ref e1, .ref e2, .ref e3, .int (nI pn), .int ht])), (e0, .inl (t 0, 16, .inl KA)), (e1, .inl (t 0, 16, .inl DA)), (e2, .inl (t 0, 16, .inl ((cfill KA DA f0 f1 pn RW ST (jfill 16 0 CA) (i + 1)).2.2))), (e3, .inl (t 0, 16, .inl ((cfill KA DA f0 f1 pn RW ST (jfill 16 0 CA) (i + 1)).2.1))), (x5, .inl (t 0, 49, .inl ((cfill KA DA f0 f1 pn RW ST (jfill 16 0 CA) (i + 1)).1))), (h0, .inr (0, [.ref h1, .int tr, .int wa, .int (nI kk)])), (h1, .inl (t 1, 2, .inr (.inr (.inr (.inr (jr2 h2 h3)))))), (h2, .inl (t 0, 49, .inl f0)), (h3, .inl (t 0, 49, .inl f1))] rfl ?_
        refine jr_norm [(x4, .inr (2, [.ref e0, .ref e1, .ref e2, .ref e3, .int (nI pn), .int ht])), (e0, .inl (t 0, 16, .inl KA)), (e1, .inl (t 0, 16, .inl DA)), (e2, .inl (t 0, 16, .inl ((cfill KA DA f0 f1 pn RW ST (jfill 16 0 CA) (i + 1)).2.2))), (e3, .inl (t 0, 16, .inl ((cfill KA DA f0 f1 pn RW ST (jfill 16 0 CA) (i + 1)).2.1))), (x5, .inl (t 0, 49, .inl ((cfill KA DA f0 f1 pn RW ST (jfill 16 0 CA) (i + 1)).1))), (h0, .inr (0, [.ref h1, .int tr, .int wa, .int (nI kk)])), (h1, .inl (t 1, 2, .inr (.inr (.inr (.inr (jr2 h2 h3)))))), (h2, .inl (t 0, 49, .inl f0)), (h3, .inl (t 0, 49, .inl f1))] [] 10 0 0 rfl rfl rfl rfl rfl ?_
        refine jr_lv [1, 2, 3, 0] [(0, .ref x4), (1, .ref x5), (2, .ref h0), (3, .int (nI (i + 1)))] rfl ?_
        exact ih10 (i + 1) (by omega) (by omega)
  refine jr_norm [(x4, .inr (2, [.ref e0, .ref e1, .ref e2, .ref e3, .int (nI pn), .int ht])), (e0, .inl (t 0, 16, .inl KA)), (e1, .inl (t 0, 16, .inl DA)), (e2, .inl (t 0, 16, .inl ((cfill KA DA f0 f1 pn RW ST (jfill 16 0 CA) 0).2.2))), (e3, .inl (t 0, 16, .inl ((cfill KA DA f0 f1 pn RW ST (jfill 16 0 CA) 0).2.1))), (x5, .inl (t 0, 49, .inl ((cfill KA DA f0 f1 pn RW ST (jfill 16 0 CA) 0).1))), (h0, .inr (0, [.ref h1, .int tr, .int wa, .int (nI kk)])), (h1, .inl (t 1, 2, .inr (.inr (.inr (.inr (jr2 h2 h3)))))), (h2, .inl (t 0, 49, .inl f0)), (h3, .inl (t 0, 49, .inl f1))] [] 10 0 0 rfl rfl rfl rfl rfl ?_
  refine jr_lv [1, 2, 3, 0] [(0, .ref x4), (1, .ref x5), (2, .ref h0), (3, .int (nI 0))] rfl ?_
  exact hL1 (kk - 0 + 1) 0 (Nat.zero_le _) (Nat.lt_succ_self _)
