/-! a call on a block of cells that stand together -/
theorem zr_blk {M N o i : Nat} (h : i < M) : zr ((List.range M).map (fun j => j + o)) N i = i + o := by
  unfold zr
  rw [List.getElem?_map, List.getElem?_range h]; rfl
theorem nd_blk (M o : Nat) : va_nd ((List.range M).map (fun j => j + o)) = true := by
  apply va_nd_of
  rw [List.nodup_iff_pairwise_ne, List.pairwise_map]
  exact List.Pairwise.imp (fun h => by omega) (List.nodup_iff_pairwise_ne.mp List.nodup_range)
theorem zput_blk {o : Nat} {H1 blk H2 h' : List zE} (ho : H1.length = o) (hl : h'.length = blk.length) (hok : h'.all (zok blk.length) = true) :
    zput ((List.range blk.length).map (fun j => j + o)) (H1 ++ (blk.map (zc (fun i => i + o)) ++ H2)) h' = H1 ++ (h'.map (zc (fun i => i + o)) ++ H2) := by
  have e : h'.map (zc (zr ((List.range blk.length).map (fun j => j + o)) (H1 ++ (blk.map (zc (fun i => i + o)) ++ H2)).length)) = h'.map (zc (fun i => i + o)) := by
    apply List.map_congr_left
    intro v hv
    exact zc_eq (fun i hi => zr_blk hi) (List.all_eq_true.mp hok v hv)
  unfold zput
  rw [e, List.length_map, List.length_range, List.drop_eq_nil_of_le (by omega), List.map_nil, List.append_nil]
  apply List.ext_getElem?
  intro j
  have hlen : (H1 ++ (blk.map (zc (fun i => i + o)) ++ H2)).length = o + blk.length + H2.length := by simp [ho]; omega
  by_cases c1 : j < o
  · rw [zset_out _ _ _ _ (by
      intro z
      obtain ⟨i, -, hi⟩ := List.mem_map.mp z
      omega), List.getElem?_append_left (by omega), List.getElem?_append_left (by omega)]
  · by_cases c2 : j < o + blk.length
    · have hy : h'[j - o]? = some h'[j - o] := List.getElem?_eq_getElem (by omega)
      rw [zset_in _ _ _ (j - o) j (zc (fun i => i + o) h'[j - o]) (nd_blk _ _) (by rw [List.getElem?_map, List.getElem?_range (by omega)]; show some (j - o + o) = some j; congr 1; omega) (by rw [List.getElem?_map, hy]; rfl) (by omega)]
      rw [List.getElem?_append_right (by omega), List.getElem?_append_left (by rw [List.length_map]; omega), List.getElem?_map, ho, hy]; rfl
    · rw [zset_out _ _ _ _ (by
        intro z
        obtain ⟨i, hi, hi2⟩ := List.mem_map.mp z
        have := List.mem_range.mp hi
        omega)]
      rw [List.getElem?_append_right (by omega), List.getElem?_append_right (by rw [List.length_map]; omega), List.getElem?_append_right (by omega), List.getElem?_append_right (by rw [List.length_map]; omega), List.length_map, List.length_map, hl]
section ZB
variable {own : String} {cc : ByteArray} {nL : Nat} {ret : Option FieldType} {rm : Room} {p : Program} {l : Launch} {e : Env} {R : Room} {s : State} {m : MethodId} {args : Array Value} {below : List Frame} {meth : Method} {c : Code} {D : va_G} {dA : Nat → ClassId} {A : Nat → Prop} {ad0 : Nat → Nat} {n0 : Nat} {Q : Option Value → List zE → Prop} {mc ms k n pc : Nat} {ls : List (Option Value)} {st : List Value} {h : List zE}
theorem zi_blkV (O : zOK own cc nL ret rm p R s m args meth c D dA A) {index ci np : Nat} {y : MethodName} {cc' : ByteArray} {nL' : Nat} {ret' : Option FieldType} {rm' : Room} {As : List Value} {Q' : Option Value → List zE → Prop} {rest : List Value} {fs : List Value} (o : Nat) (H1 blk H2 : List zE) (hh : h = H1 ++ (blk.map (zc (fun i => i + o)) ++ H2)) (ho : H1.length = o)
    (C : zCV own index y ci np) (cm : Cond.code y cc' nL' ret' ∈ zt) (hM : zMet y cc' nL' ret' rm' (.ref 0 :: As) blk Q') (d : decode cc pc = .ok (.invokevirtual index, 3)) (hR : rm'.frames + 1 ≤ rm.frames ∧ 8 + (nL' + 11) + rm'.locals ≤ rm.locals) (hf : k + rm'.cells ≤ rm.cells ∧ n + rm'.slots ≤ rm.slots) (hnA : As.length = np) (hrec : blk[0]? = some (.inr (ci, fs))) (hrs : (rest.map fun v => v.category).sum ≤ 8)
    (hok : h.all (zok h.length) = true) (hls : ls.all (zlok h.length) = true) (hst : rest.all (zvok h.length) = true) (hn0 : n0 ≤ h.length) (hAs : As.all (zvok 0) = true) (hb : blk.all (zok blk.length) = true) (hw : ∀ r h', Q' r h' → h'.length = blk.length ∧ h'.all (zok blk.length) = true) (hstk : st = As.reverse ++ .ref o :: rest)
    (K : ∀ (r : Option Value) (h' : List zE), Q' r h' → zG p l e R s m args below meth c D dA A ad0 n0 nL Q mc ms (k + rm'.cells) (n + rm'.slots) (pc + 3) ls ((r.map (zv (zr ((List.range blk.length).map (fun j => j + o)) h.length))).toList ++ rest) (H1 ++ (h'.map (zc (fun i => i + o)) ++ H2))) : zG p l e R s m args below meth c D dA A ad0 n0 nL Q mc ms k n pc ls st h := by
  have h0 : 0 < blk.length := (List.getElem?_eq_some_iff.mp hrec).1
  have hAs2 : As.map (zv (zr ((List.range blk.length).map (fun j => j + o)) h.length)) = As := by
    conv => rhs; rw [← List.map_id As]
    apply List.map_congr_left
    intro v hv
    rw [zv_eq (g := fun i => i) (N := 0) (fun i hi => absurd hi (Nat.not_lt_zero i)) (List.all_eq_true.mp hAs v hv)]
    exact zv_id v
  refine zi_callV O ((List.range blk.length).map (fun j => j + o)) C cm hM d hR hf hnA hrec hrs (nd_blk _ _) ?_ hok hls hst hn0 (by rw [hAs2, zr_blk h0, Nat.zero_add]; exact hstk) (fun r h' hq hl => ?_)
  · apply List.ext_getElem?
    intro j
    rw [List.getElem?_map, List.getElem?_map, List.getElem?_map]
    by_cases hj : j < blk.length
    · rw [List.getElem?_range hj, List.getElem?_eq_getElem hj]
      show some (h[j + o]?) = some (some _)
      rw [zc_eq (g := fun i => i + o) (fun i hi => zr_blk hi) (List.all_eq_true.mp hb _ (List.getElem_mem hj)), hh, List.getElem?_append_right (by omega), List.getElem?_append_left (by rw [List.length_map]; omega), List.getElem?_map, ho, Nat.add_sub_cancel, List.getElem?_eq_getElem hj]; rfl
    · rw [List.getElem?_eq_none (by simpa using hj), List.getElem?_eq_none (by omega)]; rfl
  · obtain ⟨w1, w2⟩ := hw r h' hq
    have := K r h' hq
    rw [hh, zput_blk ho w1 w2, ← hh]
    exact this
theorem zi_blkP (O : zOK own cc nL ret rm p R s m args meth c D dA A) {index ci np : Nat} {y : MethodName} {cc' : ByteArray} {nL' : Nat} {ret' : Option FieldType} {fr lo : Nat} {As : List Value} {v : Int32} {rest : List Value} {fs : List Value} (o : Nat) (H1 blk H2 : List zE) (hh : h = H1 ++ (blk.map (zc (fun i => i + o)) ++ H2)) (ho : H1.length = o)
    (C : zCV own index y ci np) (cm : Cond.code y cc' nL' ret' ∈ zt) (hM : zPu y cc' nL' ret' ⟨fr, 0, 0, lo⟩ (.ref 0 :: As) blk (.int v)) (d : decode cc pc = .ok (.invokevirtual index, 3)) (hR : fr + 1 ≤ rm.frames ∧ 8 + (nL' + 11) + lo ≤ rm.locals) (hf : k ≤ rm.cells ∧ n ≤ rm.slots) (hnA : As.length = np) (hrec : blk[0]? = some (.inr (ci, fs))) (hrs : (rest.map fun v => v.category).sum ≤ 8)
    (hok : h.all (zok h.length) = true) (hls : ls.all (zlok h.length) = true) (hst : rest.all (zvok h.length) = true) (hn0 : n0 ≤ h.length) (hAs : As.all (zvok 0) = true) (hb : blk.all (zok blk.length) = true) (hstk : st = As.reverse ++ .ref o :: rest)
    (K : zG p l e R s m args below meth c D dA A ad0 n0 nL Q mc ms k n (pc + 3) ls (.int v :: rest) h) : zG p l e R s m args below meth c D dA A ad0 n0 nL Q mc ms k n pc ls st h := by
  refine zi_blkV O o H1 blk H2 hh ho C cm hM d hR hf hnA hrec hrs hok hls hst hn0 hAs hb (fun r h' hq => ?_) hstk (fun r h' hq => ?_)
  · obtain ⟨rfl, rfl⟩ := hq; exact ⟨rfl, hb⟩
  · obtain ⟨rfl, rfl⟩ := hq
    rw [← hh]
    exact K
end ZB
