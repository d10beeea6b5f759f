/-! the eight captures as one chunk of the world, and one of them out of it -/
abbrev JCap : Type := Int32 × Int32 × Int32 × (Nat → Int32) × (Nat → Int32)
def jcapc (t : Nat → ClassId) (ad : Nat → Nat) (K : Nat → JCap) (j : Nat) : Nat × va_E := (ad j, match j % 4 with
  | 0 => .inr (0, [.ref (ad (j + 1)), .int (K (j / 4)).1, .int (K (j / 4)).2.1, .int (K (j / 4)).2.2.1])
  | 1 => .inl (t 1, 2, .inr (.inr (.inr (.inr (jr2 (ad (j + 1)) (ad (j + 2)))))))
  | 2 => .inl (t 0, 49, .inl (K (j / 4)).2.2.2.1)
  | _ => .inl (t 0, 49, .inl (K (j / 4)).2.2.2.2))
def jpool (t : Nat → ClassId) (ad : Nat → Nat) (K : Nat → JCap) : va_W := (List.range 32).map (jcapc t ad K)
def jcapw (t : Nat → ClassId) (ad : Nat → Nat) (r : Nat) (kr : JCap) : va_W := [(ad (4 * r), .inr (0, [.ref (ad (4 * r + 1)), .int kr.1, .int kr.2.1, .int kr.2.2.1])), (ad (4 * r + 1), .inl (t 1, 2, .inr (.inr (.inr (.inr (jr2 (ad (4 * r + 2)) (ad (4 * r + 3)))))))), (ad (4 * r + 2), .inl (t 0, 49, .inl kr.2.2.2.1)), (ad (4 * r + 3), .inl (t 0, 49, .inl kr.2.2.2.2))]
def jpoolx (t : Nat → ClassId) (ad : Nat → Nat) (K : Nat → JCap) (r : Nat) : va_W := ((List.range 32).filter (fun j => decide (¬ j / 4 = r))).map (jcapc t ad K)
def upK (K : Nat → JCap) (r : Nat) (kr : JCap) : Nat → JCap := fun i => if i = r then kr else K i
def jcaps (ad : Nat → Nat) : Nat → Option Nat := fun i => some (ad (4 * i))
theorem upK_s {K : Nat → JCap} {r : Nat} {kr : JCap} : upK K r kr r = kr := if_pos rfl
theorem upK_n {K : Nat → JCap} {r i : Nat} {kr : JCap} (h : i ≠ r) : upK K r kr i = K i := if_neg h
theorem upK_u {K : Nat → JCap} {r : Nat} {a b : JCap} : upK (upK K r a) r b = upK K r b := by
  funext i
  unfold upK
  by_cases h : i = r <;> simp [h]
theorem upK_self {K : Nat → JCap} {r : Nat} : upK K r (K r) = K := by
  funext i
  unfold upK
  by_cases h : i = r <;> simp [h]
theorem jcapc_w (t : Nat → ClassId) (ad : Nat → Nat) (K : Nat → JCap) (r : Nat) : [4 * r, 4 * r + 1, 4 * r + 2, 4 * r + 3].map (jcapc t ad K) = jcapw t ad r (K r) := by
  have a0 : (4 * r) % 4 = 0 := by omega
  have a1 : (4 * r + 1) % 4 = 1 := by omega
  have a2 : (4 * r + 2) % 4 = 2 := by omega
  have a3 : (4 * r + 3) % 4 = 3 := by omega
  have b0 : (4 * r) / 4 = r := by omega
  have b1 : (4 * r + 1) / 4 = r := by omega
  have b2 : (4 * r + 2) / 4 = r := by omega
  have b3 : (4 * r + 3) / 4 = r := by omega
  simp only [List.map, jcapc, jcapw, a0, a1, a2, a3, b0, b1, b2, b3]
theorem jrange_perm : ∀ r, r < 8 → (List.range 32).Perm ([4 * r, 4 * r + 1, 4 * r + 2, 4 * r + 3] ++ (List.range 32).filter (fun j => decide (¬ j / 4 = r))) := by decide +kernel
theorem jpool_perm (t : Nat → ClassId) (ad : Nat → Nat) (K : Nat → JCap) {r : Nat} (hr : r < 8) : (jpool t ad K).Perm (jcapw t ad r (K r) ++ jpoolx t ad K r) := by
  have h := (jrange_perm r hr).map (jcapc t ad K)
  rw [List.map_append, jcapc_w] at h
  exact h
theorem jpoolx_up (t : Nat → ClassId) (ad : Nat → Nat) (K : Nat → JCap) (r : Nat) (kr : JCap) : jpoolx t ad (upK K r kr) r = jpoolx t ad K r := by
  unfold jpoolx
  apply List.map_congr_left
  intro j hj
  have h2 : ¬ j / 4 = r := of_decide_eq_true (List.mem_filter.mp hj).2
  unfold jcapc
  rw [upK_n h2]
theorem jpool_unperm (t : Nat → ClassId) (ad : Nat → Nat) (K : Nat → JCap) {r : Nat} (kr : JCap) (hr : r < 8) : (jcapw t ad r kr ++ jpoolx t ad K r).Perm (jpool t ad (upK K r kr)) := by
  have h := (jpool_perm t ad (upK K r kr) hr).symm
  rw [upK_s, jpoolx_up] at h
  exact h
theorem va_P_mem {D : va_G} {cl : List vw_C} {ws : va_W} {H : Heap} : va_P D cl ws H ↔ ∀ q ∈ ws, va_at D cl q H := by
  constructor
  · intro h q hq
    obtain ⟨i, hi⟩ := List.getElem?_of_mem hq
    exact h i q hi
  · intro h k q hk
    exact h q (List.mem_of_getElem? hk)
theorem va_D_mem {A : Nat → Prop} {ws : va_W} : va_D A ws ↔ (ws.map Prod.fst).Nodup ∧ ∀ q ∈ ws, A q.1 := by
  constructor
  · intro h
    refine ⟨List.pairwise_iff_getElem.mpr fun i j hi hj hij e => ?_, fun q hq => ?_⟩
    · rw [List.length_map] at hi hj
      rw [List.getElem_map, List.getElem_map] at e
      have := h.1 i j ws[i] ws[j] (List.getElem?_eq_getElem hi) (List.getElem?_eq_getElem hj) e
      omega
    · obtain ⟨i, hi⟩ := List.getElem?_of_mem hq
      exact h.2 i q hi
  · intro h
    refine ⟨fun i j p q hp hq e => ?_, fun k q hk => h.2 q (List.mem_of_getElem? hk)⟩
    have hi := (List.getElem?_eq_some_iff.mp hp).1
    have hj := (List.getElem?_eq_some_iff.mp hq).1
    have ei := (List.getElem?_eq_some_iff.mp hp).2
    have ej := (List.getElem?_eq_some_iff.mp hq).2
    have hn := List.pairwise_iff_getElem.mp h.1
    rcases Nat.lt_trichotomy i j with hl | hl | hl
    · exact absurd (by rw [List.getElem_map, List.getElem_map, ei, ej]; exact e) (hn i j (by rw [List.length_map]; exact hi) (by rw [List.length_map]; exact hj) hl)
    · exact hl
    · exact absurd (by rw [List.getElem_map, List.getElem_map, ei, ej]; exact e.symm) (hn j i (by rw [List.length_map]; exact hj) (by rw [List.length_map]; exact hi) hl)
theorem jr_perm {p : Program} {l : Launch} {e : Env} {R : Room} {s : State} {m : MethodId} {args : Array Value} {below : List Frame} {meth : Method} {c : Code} {D : va_G} {A : Nat → Prop} {nL : Nat} {Q : State → Prop} {ws ws' : va_W} {lv : List (Nat × Value)} {pc : Nat} {st : List Value} {k n : Nat} (h : ws.Perm ws') (k9 : J p l e R s m args below meth c D A nL Q ws' lv pc st k n) : J p l e R s m args below meth c D A nL Q ws lv pc st k n := by
  intro H locs ls hP hD hS hl
  refine k9 H locs ls (va_P_mem.mpr fun q hq => va_P_mem.mp hP q (h.mem_iff.mpr hq)) (va_D_mem.mpr ⟨?_, fun q hq => (va_D_mem.mp hD).2 q (h.mem_iff.mpr hq)⟩) hS hl
  exact ((h.map Prod.fst).nodup_iff).mp (va_D_mem.mp hD).1
theorem jr_focus {p : Program} {l : Launch} {e : Env} {R : Room} {s : State} {m : MethodId} {args : Array Value} {below : List Frame} {meth : Method} {c : Code} {D : va_G} {A : Nat → Prop} {nL : Nat} {Q : State → Prop} {lv : List (Nat × Value)} {pc : Nat} {st : List Value} {k n : Nat} {t : Nat → ClassId} {ad : Nat → Nat} {K : Nat → JCap} (pre : va_W) (r : Nat) (hr : r < 8) (k9 : J p l e R s m args below meth c D A nL Q (pre ++ (jcapw t ad r (K r) ++ jpoolx t ad K r)) lv pc st k n) : J p l e R s m args below meth c D A nL Q (pre ++ jpool t ad K) lv pc st k n := jr_perm (List.Perm.append_left pre (jpool_perm t ad K hr)) k9
theorem jr_unfocus {p : Program} {l : Launch} {e : Env} {R : Room} {s : State} {m : MethodId} {args : Array Value} {below : List Frame} {meth : Method} {c : Code} {D : va_G} {A : Nat → Prop} {nL : Nat} {Q : State → Prop} {lv : List (Nat × Value)} {pc : Nat} {st : List Value} {k n : Nat} {t : Nat → ClassId} {ad : Nat → Nat} {K : Nat → JCap} {kr : JCap} (pre : va_W) (r : Nat) (hr : r < 8) (k9 : J p l e R s m args below meth c D A nL Q (pre ++ jpool t ad (upK K r kr)) lv pc st k n) : J p l e R s m args below meth c D A nL Q (pre ++ (jcapw t ad r kr ++ jpoolx t ad K r)) lv pc st k n := jr_perm (List.Perm.append_left pre (jpool_unperm t ad K kr hr)) k9
