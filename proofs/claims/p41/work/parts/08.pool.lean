/-! the eight captures as one chunk of the world, and one of them out of it -/
abbrev JCap : Type := Int32 × Int32 × Int32 × (Nat → Int32) × (Nat → Int32)
def jcapc (t : Nat → ClassId) (ad : Nat → Nat) (K : Nat → JCap) (j : Nat) : Nat × va_E := (ad j, match j % 4 with
  | 0 => .inr (0, [.ref (ad (j + 1)), .int (K (j / 4)).1, .int (K (j / 4)).2.1, .int (K (j / 4)).2.2.1])
  | 1 => .inl (t 1, 2, .inr (.inr (.inr (.inr (jr2 (ad (j + 1)) (ad (j + 2)))))))
  | 2 => .inl (t 0, 49, .inl (K (j / 4)).2.2.2.1)
  | _ => .inl (t 0, 49, .inl (K (j / 4)).2.2.2.2))
def jpool (t : Nat → ClassId) (ad : Nat → Nat) (K : Nat → JCap) : va_W := (List.range 32).map (jcapc t ad K)
def jcapw (t : Nat → ClassId) (ad : Nat → Nat) (r : Nat) (kr : JCap) : va_W := [(ad (4 * r), .inr (0, [.ref (ad (4 * r + 1)), .int kr.1, .int kr.2.1, .int kr.2.2.1])), (ad (4 * r + 1), .inl (t 1, 2, .inr (.inr (.inr (.inr (jr2 (ad (4 * r + 2)) (ad (4 * r + 3)))))))), (ad (4 * r + 2), .inl (t 0, 49, .inl kr.2.2.2.1)), (ad (4 * r + 3), .inl (t 0, 49, .inl kr.2.2.2.2))]
def jpoolx (t : Nat → ClassId) (ad : Nat → Nat) (K : Nat → JCap) (r : Nat) : va_W := ((List.range 32).filter (fun j => decide (¬ j / 4 = r))).map (jcapc t ad K)
def upK (K : Nat → JCap) (r : Nat) (kr : JCap) : Nat → JCap := fun i => if i = r then kr else K i
def jcaps (ad : Nat → Nat) : Nat → Option Nat := fun i => some (ad (4 * i))
theorem upK_s {K : Nat → JCap} {r : Nat} {kr : JCap} : upK K r kr r = kr := if_pos rfl
theorem upK_n {K : Nat → JCap} {r i : Nat} {kr : JCap} (h : i ≠ r) : upK K r kr i = K i := if_neg h
theorem upK_u {K : Nat → JCap} {r : Nat} {a b : JCap} : upK (upK K r a) r b = upK K r b := by
  funext i
  unfold upK
  by_cases h : i = r <;> simp [h]
theorem upK_self {K : Nat → JCap} {r : Nat} : upK K r (K r) = K := by
  funext i
  unfold upK
  by_cases h : i = r <;> simp [h]
theorem jcapc_w (t : Nat → ClassId) (ad : Nat → Nat) (K : Nat → JCap) (r : Nat) : [4 * r, 4 * r + 1, 4 * r + 2, 4 * r + 3].map (jcapc t ad K) = jcapw t ad r (K r) := by
  have a0 : (4 * r) % 4 = 0 := by omega
  have a1 : (4 * r + 1) % 4 = 1 := by omega
  have a2 : (4 * r + 2) % 4 = 2 := by omega
  have a3 : (4 * r + 3) % 4 = 3 := by omega
  have b0 : (4 * r) / 4 = r := by omega
  have b1 : (4 * r + 1) / 4 = r := by omega
  have b2 : (4 * r + 2) / 4 = r := by omega
  have b3 : (4 * r + 3) / 4 = r := by omega
  simp only [List.map, jcapc, jcapw, a0, a1, a2, a3, b0, b1, b2, b3]
theorem jrange_perm : ∀ r, r < 8 → (List.range 32).Perm ([4 * r, 4 * r + 1, 4 * r + 2, 4 * r + 3] ++ (List.range 32).filter (fun j => decide (¬ j / 4 = r))) := by decide +kernel
theorem jpool_perm (t : Nat → ClassId) (ad : Nat → Nat) (K : Nat → JCap) {r : Nat} (hr : r < 8) : (jpool t ad K).Perm (jcapw t ad r (K r) ++ jpoolx t ad K r) := by
  have h := (jrange_perm r hr).map (jcapc t ad K)
  rw [List.map_append, jcapc_w] at h
  exact h
theorem jpoolx_up (t : Nat → ClassId) (ad : Nat → Nat) (K : Nat → JCap) (r : Nat) (kr : JCap) : jpoolx t ad (upK K r kr) r = jpoolx t ad K r := by
  unfold jpoolx
  apply List.map_congr_left
  intro j hj
  have h2 : ¬ j / 4 = r := of_decide_eq_true (List.mem_filter.mp hj).2
  unfold jcapc
  rw [upK_n h2]
theorem jpool_unperm (t : Nat → ClassId) (ad : Nat → Nat) (K : Nat → JCap) {r : Nat} (kr : JCap) (hr : r < 8) : (jcapw t ad r kr ++ jpoolx t ad K r).Perm (jpool t ad (upK K r kr)) := by
  have h := (jpool_perm t ad (upK K r kr) hr).symm
  rw [upK_s, jpoolx_up] at h
  exact h
theorem va_P_mem {D : va_G} {cl : List vw_C} {ws : va_W} {H : Heap} : va_P D cl ws H ↔ ∀ q ∈ ws, va_at D cl q H := by
  constructor
  · intro h q hq
    obtain ⟨i, hi⟩ := List.getElem?_of_mem hq
    exact h i q hi
  · intro h k q hk
    exact h q (List.mem_of_getElem? hk)
theorem va_D_mem {A : Nat → Prop} {ws : va_W} : va_D A ws ↔ (ws.map Prod.fst).Nodup ∧ ∀ q ∈ ws, A q.1 := by
  constructor
  · intro h
    refine ⟨List.pairwise_iff_getElem.mpr fun i j hi hj hij e => ?_, fun q hq => ?_⟩
    · rw [List.length_map] at hi hj
      rw [List.getElem_map, List.getElem_map] at e
      have := h.1 i j ws[i] ws[j] (List.getElem?_eq_getElem hi) (List.getElem?_eq_getElem hj) e
      omega
    · obtain ⟨i, hi⟩ := List.getElem?_of_mem hq
      exact h.2 i q hi
  · intro h
    refine ⟨fun i j p q hp hq e => ?_, fun k q hk => h.2 q (List.mem_of_getElem? hk)⟩
    have hi := (List.getElem?_eq_some_iff.mp hp).1
    have hj := (List.getElem?_eq_some_iff.mp hq).1
    have ei := (List.getElem?_eq_some_iff.mp hp).2
    have ej := (List.getElem?_eq_some_iff.mp hq).2
    have hn := List.pairwise_iff_getElem.mp h.1
    rcases Nat.lt_trichotomy i j with hl | hl | hl
    · exact absurd (by rw [List.getElem_map, List.getElem_map, ei, ej]; exact e) (hn i j (by rw [List.length_map]; exact hi) (by rw [List.length_map]; exact hj) hl)
    · exact hl
    · exact absurd (by rw [List.getElem_map, List.getElem_map, ei, ej]; exact e.symm) (hn j i (by rw [List.length_map]; exact hj) (by rw [List.length_map]; exact hi) hl)
theorem jr_perm {p : Program} {l : Launch} {e : Env} {R : Room} {s : State} {m : MethodId} {args : Array Value} {below : List Frame} {meth : Method} {c : Code} {D : va_G} {A : Nat → Prop} {nL : Nat} {Q : State → Prop} {ws ws' : va_W} {lv : List (Nat × Value)} {pc : Nat} {st : List Value} {k n : Nat} (h : ws.Perm ws') (k9 : J p l e R s m args below meth c D A nL Q ws' lv pc st k n) : J p l e R s m args below meth c D A nL Q ws lv pc st k n := by
  intro H locs ls hP hD hS hl
  refine k9 H locs ls (va_P_mem.mpr fun q hq => va_P_mem.mp hP q (h.mem_iff.mpr hq)) (va_D_mem.mpr ⟨?_, fun q hq => (va_D_mem.mp hD).2 q (h.mem_iff.mpr hq)⟩) hS hl
  exact ((h.map Prod.fst).nodup_iff).mp (va_D_mem.mp hD).1
theorem jr_focus {p : Program} {l : Launch} {e : Env} {R : Room} {s : State} {m : MethodId} {args : Array Value} {below : List Frame} {meth : Method} {c : Code} {D : va_G} {A : Nat → Prop} {nL : Nat} {Q : State → Prop} {lv : List (Nat × Value)} {pc : Nat} {st : List Value} {k n : Nat} {t : Nat → ClassId} {ad : Nat → Nat} {K : Nat → JCap} (pre : va_W) (r : Nat) (hr : r < 8) (k9 : J p l e R s m args below meth c D A nL Q (pre ++ (jcapw t ad r (K r) ++ jpoolx t ad K r)) lv pc st k n) : J p l e R s m args below meth c D A nL Q (pre ++ jpool t ad K) lv pc st k n := jr_perm (List.Perm.append_left pre (jpool_perm t ad K hr)) k9
theorem jr_unfocus {p : Program} {l : Launch} {e : Env} {R : Room} {s : State} {m : MethodId} {args : Array Value} {below : List Frame} {meth : Method} {c : Code} {D : va_G} {A : Nat → Prop} {nL : Nat} {Q : State → Prop} {lv : List (Nat × Value)} {pc : Nat} {st : List Value} {k n : Nat} {t : Nat → ClassId} {ad : Nat → Nat} {K : Nat → JCap} {kr : JCap} (pre : va_W) (r : Nat) (hr : r < 8) (k9 : J p l e R s m args below meth c D A nL Q (pre ++ jpool t ad (upK K r kr)) lv pc st k n) : J p l e R s m args below meth c D A nL Q (pre ++ (jcapw t ad r kr ++ jpoolx t ad K r)) lv pc st k n := jr_perm (List.Perm.append_left pre (jpool_unperm t ad K kr hr)) k9
/-! a call whose world ends in the pool -/
theorem jpool_len {t : Nat → ClassId} {ad : Nat → Nat} {K : Nat → JCap} : (jpool t ad K).length = 32 := by simp [jpool]
theorem jpool_fst {t : Nat → ClassId} {ad : Nat → Nat} {K : Nat → JCap} : (jpool t ad K).map Prod.fst = (List.range 32).map ad := by
  unfold jpool
  rw [List.map_map]
  rfl
theorem jpool_isC {t : Nat → ClassId} {ad : Nat → Nat} {K : Nat → JCap} {pre wcx : va_W} {is : List Nat} (n : Nat) (hn : pre.length = n) (h : is.map (fun i => pre[i]?) = wcx.map some) (hl : ∀ i ∈ is, i < n) : (is ++ (List.range 32).map (fun i => n + i)).map (fun i => (pre ++ jpool t ad K)[i]?) = (wcx ++ jpool t ad K).map some := by
  rw [List.map_append, List.map_append]
  congr 1
  · rw [← h]
    apply List.map_congr_left
    intro i hi
    exact List.getElem?_append_left (by rw [hn]; exact hl i hi)
  · apply List.ext_getElem?
    intro j
    rw [List.getElem?_map, List.getElem?_map, List.getElem?_map]
    by_cases hj : j < 32
    · rw [List.getElem?_range hj]
      show some ((pre ++ jpool t ad K)[n + j]?) = _
      rw [List.getElem?_append_right (by omega), show n + j - pre.length = j by omega]
      have hl2 : j < (jpool t ad K).length := by rw [jpool_len]; exact hj
      rw [List.getElem?_eq_getElem hl2]
      rfl
    · rw [List.getElem?_eq_none (by rw [List.length_range]; omega), List.getElem?_eq_none (by rw [jpool_len]; omega)]
      rfl
theorem jpool_take {t : Nat → ClassId} {ad : Nat → Nat} {K K' : Nat → JCap} {wcx w1 : va_W} (h1 : w1.length = wcx.length) : (w1 ++ jpool t ad K').take (wcx ++ jpool t ad K).length = w1 ++ jpool t ad K' ∧ (w1 ++ jpool t ad K').drop (wcx ++ jpool t ad K).length = [] := by
  have hl : (w1 ++ jpool t ad K').length = (wcx ++ jpool t ad K).length := by rw [List.length_append, List.length_append, jpool_len, jpool_len, h1]
  rw [← hl]
  exact ⟨List.take_length, List.drop_length⟩
theorem jpool_same {t : Nat → ClassId} {ad : Nat → Nat} {K K' : Nat → JCap} {wcx w1 : va_W} (h : w1.map Prod.fst = wcx.map Prod.fst) : ((w1 ++ jpool t ad K').take (wcx ++ jpool t ad K).length).map Prod.fst = (wcx ++ jpool t ad K).map Prod.fst := by
  rw [(jpool_take (by simpa using congrArg List.length h)).1, List.map_append, List.map_append, h, jpool_fst, jpool_fst]
theorem jput_app : ∀ (is js : List Nat) (a b ws : va_W), is.length = a.length → jput ws (is ++ js) (a ++ b) = jput (jput ws is a) js b
  | [], _, [], _, _, _ => by simp [jput]
  | [], _, _ :: _, _, _, h => by simp at h
  | _ :: _, _, [], _, _, h => by simp at h
  | i :: is, js, c :: a, b, ws, h => by
    show jput (ws.set i c) (is ++ js) (a ++ b) = jput (jput (ws.set i c) is a) js b
    exact jput_app is js a b _ (by simpa using h)
theorem jput_left : ∀ (is : List Nat) (a pre L : va_W), (∀ i ∈ is, i < pre.length) → jput (pre ++ L) is a = jput pre is a ++ L
  | [], _, _, _, _ => by simp [jput]
  | _ :: _, [], _, _, _ => by simp [jput]
  | i :: is, c :: a, pre, L, h => by
    rw [jput, jput, List.set_append_left _ _ (h i List.mem_cons_self)]
    exact jput_left is a (pre.set i c) L (fun j hj => by rw [List.length_set]; exact h j (List.mem_cons_of_mem _ hj))
theorem jput_right (pre L L' : va_W) (hL : L.length = L'.length) : ∀ (d k : Nat), k + d = L.length → jput (pre ++ (L'.take k ++ L.drop k)) ((List.range' k d).map (fun i => pre.length + i)) (L'.drop k) = pre ++ L'
  | 0, k, h => by
    have h1 : L'.drop k = [] := List.drop_of_length_le (by omega)
    have h2 : L.drop k = [] := List.drop_of_length_le (by omega)
    have h3 : L'.take k = L' := List.take_of_length_le (by omega)
    rw [h1, h2, h3]
    simp [jput]
  | d + 1, k, h => by
    have hk : k < L'.length := by omega
    have hk2 : k < L.length := by omega
    rw [List.range'_succ, List.map_cons, List.drop_eq_getElem_cons hk, jput]
    have e : (pre ++ (L'.take k ++ L.drop k)).set (pre.length + k) L'[k] = pre ++ (L'.take (k + 1) ++ L.drop (k + 1)) := by
      rw [List.set_append_right _ _ (by omega), show pre.length + k - pre.length = k by omega, List.set_append_right _ _ (by rw [List.length_take]; omega), List.length_take, show k - min k L'.length = 0 by omega, List.drop_eq_getElem_cons hk2, List.set_cons_zero]
      rw [List.take_succ_eq_append_getElem hk, List.append_assoc]
      rfl
    rw [e]
    exact jput_right pre L L' hL d (k + 1) (by omega)
theorem jpool_after {t : Nat → ClassId} {ad : Nat → Nat} {K K' : Nat → JCap} {pre wcx w1 : va_W} {is : List Nat} (n : Nat) (hn : pre.length = n) (h1 : w1.length = wcx.length) (h2 : is.length = w1.length) (h3 : ∀ i ∈ is, i < n) : jput (pre ++ jpool t ad K) (is ++ (List.range 32).map (fun i => n + i)) ((w1 ++ jpool t ad K').take (wcx ++ jpool t ad K).length) ++ (w1 ++ jpool t ad K').drop (wcx ++ jpool t ad K).length = jput pre is w1 ++ jpool t ad K' := by
  rw [(jpool_take h1).1, (jpool_take h1).2, List.append_nil, jput_app _ _ _ _ _ h2, jput_left _ _ _ _ (fun i hi => by rw [hn]; exact h3 i hi)]
  have hl : (jput pre is w1).length = n := by rw [jput_len, hn]
  have h := jput_right (jput pre is w1) (jpool t ad K) (jpool t ad K') (by rw [jpool_len, jpool_len]) 32 0 (by rw [jpool_len])
  rw [hl, ← List.range_eq_range'] at h
  simpa using h
theorem jdrop_nil {ws : va_W} {is : List Nat} {u : va_W} {n : Nat} (h : u.length = n) : jput ws is (u.take n) ++ u.drop n = jput ws is u := by rw [← h, List.take_length, List.drop_length, List.append_nil]
