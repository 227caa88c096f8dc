/-! a call whose callee's cells are all the caller's, in their order -/
theorem zv_id (v : Value) : zv (fun i => i) v = v := by cases v <;> rfl
theorem zA_id (a : vp_A) : zA (fun i => i) a = a := by
  obtain ⟨n, x⟩ := a
  rcases x with x | x | x | x | x
  · rfl
  · rfl
  · rfl
  · rfl
  · simp [zA]
theorem zc_id (e : zE) : zc (fun i => i) e = e := by
  rcases e with ⟨t, a⟩ | ⟨ci, fs⟩
  · simp only [zc, zA_id]
  · simp only [zc]
    congr 2
    conv => rhs; rw [← List.map_id fs]
    apply List.map_congr_left
    intro v _
    exact zv_id v
theorem zr_range (N : Nat) : zr (List.range N) N = fun i => i := by
  funext i
  unfold zr
  by_cases h : i < N
  · rw [List.getElem?_range h]; rfl
  · rw [List.getElem?_eq_none (by simpa using h), List.length_range]
    show N + (i - N) = i
    omega
theorem va_nd_of : ∀ (l : List Nat), l.Nodup → va_nd l = true
  | [], _ => rfl
  | a :: l, h => by
    rw [List.nodup_cons] at h
    rw [va_nd, va_nd_of l h.2]
    simp [h.1]
theorem zput_range (h h' : List zE) (hl : h.length ≤ h'.length) : zput (List.range h.length) h h' = h' := by
  unfold zput
  rw [zr_range]
  have e : h'.map (zc (fun i => i)) = h' := by
    conv => rhs; rw [← List.map_id h']
    apply List.map_congr_left
    intro v _
    exact zc_id v
  have e2 : (h'.drop (List.range h.length).length).map (zc (fun i => i)) = h'.drop h.length := by
    rw [List.length_range]
    conv => rhs; rw [← List.map_id (h'.drop h.length)]
    apply List.map_congr_left
    intro v _
    exact zc_id v
  rw [e, e2]
  apply List.ext_getElem?
  intro j
  by_cases hj : j < h.length
  · rw [List.getElem?_append_left (by rw [zset_len]; exact hj)]
    have hy : h'[j]? = some h'[j] := List.getElem?_eq_getElem (by omega)
    rw [zset_in _ _ _ j j _ (va_nd_of _ List.nodup_range) (List.getElem?_range hj) hy hj, hy]
  · rw [List.getElem?_append_right (by rw [zset_len]; omega), zset_len, List.getElem?_drop]
    congr 1
    omega
section ZS
variable {own : String} {cc : ByteArray} {nL : Nat} {ret : Option FieldType} {rm : Room} {p : Program} {l : Launch} {e : Env} {R : Room} {s : State} {m : MethodId} {args : Array Value} {below : List Frame} {meth : Method} {c : Code} {D : va_G} {dA : Nat → ClassId} {A : Nat → Prop} {ad0 : Nat → Nat} {n0 : Nat} {Q : Option Value → List zE → Prop} {mc ms k n pc : Nat} {ls : List (Option Value)} {st : List Value} {h : List zE}
theorem zi_selfV (O : zOK own cc nL ret rm p R s m args meth c D dA A) {index ci np : Nat} {y : MethodName} {cc' : ByteArray} {nL' : Nat} {ret' : Option FieldType} {rm' : Room} {a0 : Nat} {As : List Value} {Q' : Option Value → List zE → Prop} {rest : List Value} {fs : List Value}
    (C : zCV own index y ci np) (cm : Cond.code y cc' nL' ret' ∈ zt) (hM : zMet y cc' nL' ret' rm' (.ref a0 :: As) h Q') (d : decode cc pc = .ok (.invokevirtual index, 3)) (hR : rm'.frames + 1 ≤ rm.frames ∧ 8 + (nL' + 11) + rm'.locals ≤ rm.locals) (hf : k + rm'.cells ≤ rm.cells ∧ n + rm'.slots ≤ rm.slots) (hnA : As.length = np) (hrec : h[a0]? = some (.inr (ci, fs))) (hrs : (rest.map fun v => v.category).sum ≤ 8)
    (hok : h.all (zok h.length) = true) (hls : ls.all (zlok h.length) = true) (hst : rest.all (zvok h.length) = true) (hn0 : n0 ≤ h.length) (hstk : st = As.reverse ++ .ref a0 :: rest)
    (K : ∀ (r : Option Value) (h' : List zE), Q' r h' → h.length ≤ h'.length → zG p l e R s m args below meth c D dA A ad0 n0 nL Q mc ms (k + rm'.cells) (n + rm'.slots) (pc + 3) ls (r.toList ++ rest) h') : zG p l e R s m args below meth c D dA A ad0 n0 nL Q mc ms k n pc ls st h := by
  have hAs : As.map (zv (fun i => i)) = As := by
    conv => rhs; rw [← List.map_id As]
    apply List.map_congr_left
    intro v _
    exact zv_id v
  refine zi_callV O (List.range h.length) C cm hM d hR hf hnA hrec hrs (va_nd_of _ List.nodup_range) ?_ hok hls hst hn0 (by rw [zr_range, hAs]; exact hstk) (fun r h' hq hl => ?_)
  · rw [zr_range]
    apply List.ext_getElem?
    intro j
    rw [List.getElem?_map, List.getElem?_map]
    by_cases hj : j < h.length
    · rw [List.getElem?_range hj, List.getElem?_eq_getElem hj]
      show some (h[j]?) = some (some _)
      rw [zc_id, List.getElem?_eq_getElem hj]
    · rw [List.getElem?_eq_none (by simpa using hj), List.getElem?_eq_none (by omega)]; rfl
  · rw [zput_range _ _ hl, zr_range]
    have : (r.map (zv (fun i => i))) = r := by cases r with
      | none => rfl
      | some v => show some (zv _ v) = some v; rw [zv_id]
    rw [this]
    exact K r h' hq hl
theorem zi_selfP (O : zOK own cc nL ret rm p R s m args meth c D dA A) {index ci np : Nat} {y : MethodName} {cc' : ByteArray} {nL' : Nat} {ret' : Option FieldType} {fr lo : Nat} {a0 : Nat} {As : List Value} {v : Int32} {rest : List Value} {fs : List Value}
    (C : zCV own index y ci np) (cm : Cond.code y cc' nL' ret' ∈ zt) (hM : zPu y cc' nL' ret' ⟨fr, 0, 0, lo⟩ (.ref a0 :: As) h (.int v)) (d : decode cc pc = .ok (.invokevirtual index, 3)) (hR : fr + 1 ≤ rm.frames ∧ 8 + (nL' + 11) + lo ≤ rm.locals) (hf : k ≤ rm.cells ∧ n ≤ rm.slots) (hnA : As.length = np) (hrec : h[a0]? = some (.inr (ci, fs))) (hrs : (rest.map fun v => v.category).sum ≤ 8)
    (hok : h.all (zok h.length) = true) (hls : ls.all (zlok h.length) = true) (hst : rest.all (zvok h.length) = true) (hn0 : n0 ≤ h.length) (hstk : st = As.reverse ++ .ref a0 :: rest)
    (K : zG p l e R s m args below meth c D dA A ad0 n0 nL Q mc ms k n (pc + 3) ls (.int v :: rest) h) : zG p l e R s m args below meth c D dA A ad0 n0 nL Q mc ms k n pc ls st h := by
  refine zi_selfV O C cm hM d hR hf hnA hrec hrs hok hls hst hn0 hstk (fun r h' hq hl => ?_)
  obtain ⟨rfl, rfl⟩ := hq
  exact K
theorem zr_pre {M N i : Nat} (h : i < M) : zr (List.range M) N i = i := by
  unfold zr
  rw [List.getElem?_range h]; rfl
theorem zset_range (es h : List zE) (M : Nat) (h1 : M ≤ es.length) (h2 : M ≤ h.length) : zset (List.range M) es h = es.take M ++ h.drop M := by
  apply List.ext_getElem?
  intro j
  by_cases hj : j < M
  · have hy : es[j]? = some es[j] := List.getElem?_eq_getElem (by omega)
    rw [zset_in _ _ _ j j _ (va_nd_of _ List.nodup_range) (List.getElem?_range hj) hy (by omega), List.getElem?_append_left (by rw [List.length_take]; omega), List.getElem?_take, if_pos hj, hy]
  · rw [zset_out _ _ _ _ (by rw [List.mem_range]; exact hj), List.getElem?_append_right (by rw [List.length_take]; omega), List.length_take, List.getElem?_drop]
    congr 1
    omega
theorem map_zc_id {f : Nat → Nat} {M : Nat} (hf : ∀ i, i < M → f i = i) {l : List zE} (h : l.all (zok M) = true) : l.map (zc f) = l := by
  conv => rhs; rw [← List.map_id l]
  apply List.map_congr_left
  intro v hv
  rw [zc_eq (g := fun i => i) hf (List.all_eq_true.mp h v hv)]
  exact zc_id v
/-- a call whose callee's cells are the caller's first ones -/
theorem zi_preV (O : zOK own cc nL ret rm p R s m args meth c D dA A) {index ci np : Nat} {y : MethodName} {cc' : ByteArray} {nL' : Nat} {ret' : Option FieldType} {rm' : Room} {a0 : Nat} {As : List Value} {Q' : Option Value → List zE → Prop} {rest : List Value} {fs : List Value} (h1 T : List zE) (hh : h = h1 ++ T)
    (C : zCV own index y ci np) (cm : Cond.code y cc' nL' ret' ∈ zt) (hM : zMet y cc' nL' ret' rm' (.ref a0 :: As) h1 Q') (d : decode cc pc = .ok (.invokevirtual index, 3)) (hR : rm'.frames + 1 ≤ rm.frames ∧ 8 + (nL' + 11) + rm'.locals ≤ rm.locals) (hf : k + rm'.cells ≤ rm.cells ∧ n + rm'.slots ≤ rm.slots) (hnA : As.length = np) (hrec : h1[a0]? = some (.inr (ci, fs))) (hrs : (rest.map fun v => v.category).sum ≤ 8)
    (hok : h.all (zok h.length) = true) (hls : ls.all (zlok h.length) = true) (hst : rest.all (zvok h.length) = true) (hn0 : n0 ≤ h.length) (hAs : As.all (zvok h1.length) = true) (h1ok : h1.all (zok h1.length) = true) (hw : ∀ r h', Q' r h' → (h'.take h1.length).all (zok h1.length) = true ∧ (h'.drop h1.length).all (zok 0) = true) (hstk : st = As.reverse ++ .ref a0 :: rest)
    (K : ∀ (r : Option Value) (h' : List zE), Q' r h' → h1.length ≤ h'.length → zG p l e R s m args below meth c D dA A ad0 n0 nL Q mc ms (k + rm'.cells) (n + rm'.slots) (pc + 3) ls ((r.map (zv (zr (List.range h1.length) h.length))).toList ++ rest) (h'.take h1.length ++ T ++ h'.drop h1.length)) : zG p l e R s m args below meth c D dA A ad0 n0 nL Q mc ms k n pc ls st h := by
  have hf0 : ∀ i, i < h1.length → zr (List.range h1.length) h.length i = i := fun i hi => zr_pre hi
  have ha0 : a0 < h1.length := (List.getElem?_eq_some_iff.mp hrec).1
  have hlen : h1.length ≤ h.length := by rw [hh, List.length_append]; omega
  have hAs2 : As.map (zv (zr (List.range h1.length) h.length)) = As := by
    conv => rhs; rw [← List.map_id As]
    apply List.map_congr_left
    intro v hv
    rw [zv_eq (g := fun i => i) hf0 (List.all_eq_true.mp hAs v hv)]
    exact zv_id v
  refine zi_callV O (List.range h1.length) C cm hM d hR hf hnA hrec hrs (va_nd_of _ List.nodup_range) ?_ hok hls hst hn0 (by rw [hAs2, hf0 a0 ha0]; exact hstk) (fun r h' hq hl => ?_)
  · apply List.ext_getElem?
    intro j
    rw [List.getElem?_map, List.getElem?_map]
    by_cases hj : j < h1.length
    · rw [List.getElem?_range hj, List.getElem?_eq_getElem hj]
      show some (h[j]?) = some (some _)
      rw [zc_eq (g := fun i => i) hf0 (List.all_eq_true.mp h1ok _ (List.getElem_mem hj)), zc_id, hh, List.getElem?_append_left hj, List.getElem?_eq_getElem hj]
    · rw [List.getElem?_eq_none (by simpa using hj), List.getElem?_eq_none (by omega)]; rfl
  · obtain ⟨w1, w2⟩ := hw r h' hq
    have := K r h' hq hl
    have e : zput (List.range h1.length) h h' = h'.take h1.length ++ T ++ h'.drop h1.length := by
      unfold zput
      rw [zset_range _ _ _ (by rw [List.length_map]; exact hl) hlen, ← List.map_take, map_zc_id hf0 w1, List.length_range, map_zc_id (M := 0) (fun i hi => absurd hi (Nat.not_lt_zero i)) w2]
      congr 2
      rw [hh, List.drop_left]
    rw [e]
    exact this
end ZS
