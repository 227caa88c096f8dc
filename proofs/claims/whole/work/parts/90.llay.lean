/-! the layer for the law: any word on the locals, any end -/
def zL (p : Program) (l : Launch) (e : Env) (R : Room) (s : State) (m : MethodId) (args : Array Value) (below : List Frame) (meth : Method) (c : Code) (D : va_G) (dA : Nat → ClassId) (A : Nat → Prop) (Z : State → Prop) (k n pc : Nat) (ls : (Nat → Nat) → Array Slot → Prop) (st : List Value) (h : List zE) : Prop :=
  ∀ (ad : Nat → Nat) (H : Heap) (locs : List Loc) (L : Array Slot), ls ad L → va_P D vwCl (zw dA ad h) H → va_D A (zw dA ad h) → va_S A s.heap H locs → W p l e R s m args below meth c H locs k n Z (F0 m pc L (st.map (zv ad)))
section ZL
variable {own : String} {cc : ByteArray} {nL : Nat} {ret : Option FieldType} {rm : Room} {p : Program} {l : Launch} {e : Env} {R : Room} {s : State} {m : MethodId} {args : Array Value} {below : List Frame} {meth : Method} {c : Code} {D : va_G} {dA : Nat → ClassId} {A : Nat → Prop} {Z : State → Prop} {k n pc : Nat} {ls : (Nat → Nat) → Array Slot → Prop} {st : List Value} {h : List zE}
set_option maxHeartbeats 1000000 in
theorem zl_after (hA : ∀ q, s.heap.size ≤ q → A q) {ρ : List Nat} {hC : List zE} {Q' : Option Value → List zE → Prop} {st0 rest : List Value} {mc' ms' : Nat} {a : (Nat → Nat) → Array Value} (hnd : va_nd ρ = true) (hh : ρ.map (fun i => h[i]?) = hC.map (fun x => some (zc (zr ρ h.length) x))) (hok : h.all (zok h.length) = true) (hls : ∀ (f g : Nat → Nat) (L : Array Slot), (∀ i, i < h.length → f i = g i) → ls f L → ls g L) (hst : rest.all (zvok h.length) = true)
    (run : ∀ (ad : Nat → Nat) (H : Heap) (locs : List Loc) (L : Array Slot), ls ad L → va_P D vwCl (zw dA ad h) H → va_P D vwCl (zw dA (fun i => ad (zr ρ h.length i)) hC) H → va_D (fun _ => True) (zw dA (fun i => ad (zr ρ h.length i)) hC) →
      va_Run p l e R s m args below meth c H locs k n mc' ms' (F0 m pc L (st0.map (zv ad))) (rest.map (zv ad)) (zQc D dA (va_A (zw dA (fun i => ad (zr ρ h.length i)) hC) H.size) (fun i => ad (zr ρ h.length i)) hC.length Q' (a ad)) (va_A (zw dA (fun i => ad (zr ρ h.length i)) hC) H.size))
    (K : ∀ (r : Option Value) (h' : List zE), Q' r h' → hC.length ≤ h'.length → zL p l e R s m args below meth c D dA A Z (k + mc') (n + ms') (pc + 3) ls ((r.map (zv (zr ρ h.length))).toList ++ rest) (zput ρ h h')) : zL p l e R s m args below meth c D dA A Z k n pc ls st0 h := by
  intro ad H locs L h2 h3 h4 h5
  have hlen : ρ.length = hC.length := by simpa using congrArg List.length hh
  have hsub := z_sub (dA := dA) hh ad
  have hρlt : ∀ i j : Nat, ρ[i]? = some j → j < h.length := by
    intro i j hi
    have h6 := congrArg (fun l => l[i]?) hh
    simp only [List.getElem?_map, hi] at h6
    cases hx : hC[i]? with
    | none => rw [hx] at h6; cases h6
    | some x => rw [hx] at h6; exact (List.getElem?_eq_some_iff.mp (Option.some.inj h6)).1
  generalize hadC : (fun i => ad (zr ρ h.length i)) = adC at hsub
  have at' : ∀ (i : Nat) (q : Nat × va_E), (zw dA adC hC)[i]? = some q → ∃ j, ρ[i]? = some j ∧ (zw dA ad h)[j]? = some q := by
    intro i q hq
    have h6 : (ρ.map (fun i => (zw dA ad h)[i]?))[i]? = some (some q) := by rw [hsub, List.getElem?_map, hq]; rfl
    rw [List.getElem?_map] at h6
    cases hi : ρ[i]? with
    | none => rw [hi] at h6; cases h6
    | some j => rw [hi] at h6; exact ⟨j, rfl, Option.some.inj h6⟩
  have hPc : va_P D vwCl (zw dA adC hC) H := by
    intro i q hq
    obtain ⟨j, -, hj⟩ := at' i q hq
    exact h3 j q hj
  have hDc : va_D A (zw dA adC hC) := h4.sub ρ hnd hsub
  have hFc : ∀ q, va_A (zw dA adC hC) H.size q → A q := va_free h4 h5 hA ρ hsub
  have run := run ad H locs L h2 h3 (by rw [hadC]; exact hPc) (by rw [hadC]; exact hDc.weaken (fun _ _ _ _ => trivial))
  rw [hadC] at run
  intro T hT X
  obtain ⟨v, st₀, t, T', L', e0, X', hL, e1, e2, ⟨⟨r, h', ad', hv, hq, had, hlen', hP', hK', hD'⟩, hz, hk⟩, stp⟩ := run T hT X
  cases hv
  rw [e0] at hz hk
  obtain ⟨ad2, had2⟩ : ∃ ad2 : Nat → Nat, ad2 = fun j => if j < h.length then ad j else ad' (ρ.length + (j - h.length)) := ⟨_, rfl⟩
  have hfg : ∀ i, i < h.length → ad i = ad2 i := fun i hi => by rw [had2]; exact (if_pos hi).symm
  have hcomp : ∀ i, ad2 (zr ρ h.length i) = ad' i := by
    intro i
    by_cases hi : i < ρ.length
    · have hj : ρ[i]? = some ρ[i] := List.getElem?_eq_getElem hi
      have hz1 : zr ρ h.length i = ρ[i] := by rw [zr, hj]; rfl
      rw [had i (by omega), ← hadC]
      show ad2 (zr ρ h.length i) = ad (zr ρ h.length i)
      rw [hz1, hfg _ (hρlt i _ hj)]
    · have hj : ρ[i]? = none := List.getElem?_eq_none (by omega)
      have hz1 : zr ρ h.length i = h.length + (i - ρ.length) := by rw [zr, hj]; rfl
      rw [hz1, had2]
      show (if h.length + (i - ρ.length) < h.length then _ else _) = _
      rw [if_neg (by omega)]
      congr 1
      omega
  have hzc : ∀ x, zc ad2 (zc (zr ρ h.length) x) = zc ad' x := by
    intro x
    rw [zc_comp]
    congr 1
    funext i
    exact hcomp i
  have key : ∀ (j : Nat) (q : Nat × va_E), (zw dA ad2 (zput ρ h h'))[j]? = some q → (∃ (i : Nat) (x : zE), h'[i]? = some x ∧ q = (ad' i, zD dA (zc ad' x)) ∧ zr ρ h.length i = j) ∨ (j < h.length ∧ j ∉ ρ ∧ (zw dA ad h)[j]? = some q) := by
    intro j q hj
    obtain ⟨x, hx, rfl⟩ := zw_inv hj
    rw [zput] at hx
    by_cases hl : j < h.length
    · rw [List.getElem?_append_left (by rw [zset_len]; exact hl)] at hx
      by_cases hm : j ∈ ρ
      · obtain ⟨i, hi⟩ := List.getElem?_of_mem hm
        have hil : i < ρ.length := (List.getElem?_eq_some_iff.mp hi).1
        have hy : h'[i]? = some h'[i] := List.getElem?_eq_getElem (by omega)
        rw [zset_in ρ _ h i j _ hnd hi (by rw [List.getElem?_map, hy]; rfl) hl] at hx
        cases hx
        have hzi : zr ρ h.length i = j := by rw [zr, hi]; rfl
        refine Or.inl ⟨i, _, hy, ?_, hzi⟩
        rw [hzc, ← hcomp i, hzi]
      · rw [zset_out _ _ _ _ hm] at hx
        refine Or.inr ⟨hl, hm, ?_⟩
        rw [zw_at j hx, hfg j hl, zc_eq hfg (List.all_eq_true.mp hok x (List.mem_of_getElem? hx))]
    · rw [List.getElem?_append_right (by rw [zset_len]; omega), zset_len, List.getElem?_map, List.getElem?_drop] at hx
      cases hy : h'[ρ.length + (j - h.length)]? with
      | none => rw [hy] at hx; cases hx
      | some y =>
        rw [hy] at hx
        cases hx
        have hzi : zr ρ h.length (ρ.length + (j - h.length)) = j := by
          rw [zr, List.getElem?_eq_none (by omega)]
          show h.length + _ = j
          omega
        refine Or.inl ⟨_, y, hy, ?_, hzi⟩
        rw [hzc, ← hcomp, hzi]
  have apart : ∀ (j : Nat) (q : Nat × va_E), j ∉ ρ → (zw dA ad h)[j]? = some q → q.1 < H.size ∧ ¬ va_A (zw dA adC hC) H.size q.1 := by
    intro j q hm hq2
    have hl := (h3 j q hq2).lt
    refine ⟨hl, fun hz2 => ?_⟩
    rcases hz2 with ⟨k2, x, hx⟩ | hx
    · obtain ⟨j2, hj2, hj3⟩ := at' k2 (q.1, x) hx
      have := h4.1 j j2 q (q.1, x) hq2 hj3 rfl
      subst this
      exact hm (List.mem_of_getElem? hj2)
    · omega
  have hP2 : va_P D vwCl (zw dA ad2 (zput ρ h h')) T'.heap := by
    intro j q hj
    rw [e1]
    rcases key j q hj with ⟨i, x, hx, rfl, -⟩ | ⟨hl, hm, hq2⟩
    · exact hP' i _ (zw_at i hx)
    · obtain ⟨a1, a2⟩ := apart j q hm hq2
      exact (h3 j q hq2).kept (hk q.1 a1 a2)
  have hD2 : va_D A (zw dA ad2 (zput ρ h h')) := by
    refine ⟨fun i j x y hi hj hxy => ?_, fun j q hj => ?_⟩
    · rcases key i x hi with ⟨i1, x1, a1, rfl, a3⟩ | ⟨a1, a2, a3⟩ <;> rcases key j y hj with ⟨i2, x2, b1, rfl, b3⟩ | ⟨b1, b2, b3⟩
      · have := hD'.1 i1 i2 _ _ (zw_at i1 a1) (zw_at i2 b1) hxy
        rw [← a3, ← b3, this]
      · exact absurd (by rw [← hxy]; exact hD'.2 i1 _ (zw_at i1 a1)) (apart j y b2 b3).2
      · exact absurd (by rw [hxy]; exact hD'.2 i2 _ (zw_at i2 b1)) (apart i x a2 a3).2
      · exact h4.1 i j x y a3 b3 hxy
    · rcases key j q hj with ⟨i1, x1, a1, rfl, a3⟩ | ⟨a1, a2, a3⟩
      · exact hFc _ (hD'.2 i1 _ (zw_at i1 a1))
      · exact h4.2 j q a3
  have hS2 : va_S A s.heap T'.heap (locs ++ L') := by
    refine ⟨Nat.le_trans h5.1 (by rw [e1]; exact hz), fun q a1 a2 => ?_, fun q hq => ?_⟩
    · rw [e1, hk q (Nat.lt_of_lt_of_le a1 h5.1) (fun z => a2 (hFc q z))]
      exact h5.2.1 q a1 a2
    · rcases List.mem_append.mp hq with h | h
      · exact h5.2.2 q h
      · exact hFc _ (hL q h)
  obtain ⟨t2, s1, s2⟩ := K r h' hq hlen' ad2 T'.heap (locs ++ L') L (hls _ _ _ hfg h2) hP2 hD2 hS2 T' rfl X'
  refine ⟨t2, stp t2 ?_, s2⟩
  have e3 : ((r.map (zv (zr ρ h.length))).toList ++ rest).map (zv ad2) = (r.map (zv ad')).toList ++ rest.map (zv ad) := by
    rw [List.map_append, ← zs_ext hfg hst]
    congr 1
    cases r with
    | none => rfl
    | some v =>
      show [zv ad2 (zv _ v)] = [zv ad' v]
      rw [zv_comp]
      congr 2
      funext i
      exact hcomp i
  rw [e3] at s1
  exact s1
set_option maxHeartbeats 1000000 in
theorem zl_callV (hsz : ∀ (f : Nat → Nat) (L : Array Slot), ls f L → L.size = nL) (O : zOK own cc nL ret rm p R s m args meth c D dA A) {index ci np : Nat} {y : MethodName} {cc' : ByteArray} {nL' : Nat} {ret' : Option FieldType} {rm' : Room} {a0 : Nat} {As : List Value} {hC : List zE} {Q' : Option Value → List zE → Prop} {rest : List Value} {fs : List Value} (ρ : List Nat)
    (C : zCV own index y ci np) (cm : Cond.code y cc' nL' ret' ∈ zt) (hM : zMet y cc' nL' ret' rm' (.ref a0 :: As) hC Q') (d : decode cc pc = .ok (.invokevirtual index, 3)) (hR : rm'.frames + 1 ≤ rm.frames ∧ 8 + (nL' + 11) + rm'.locals ≤ rm.locals) (hf : k + rm'.cells ≤ rm.cells ∧ n + rm'.slots ≤ rm.slots) (hnA : As.length = np) (hrec : hC[a0]? = some (.inr (ci, fs))) (hrs : (rest.map fun v => v.category).sum ≤ 8)
    (hnd : va_nd ρ = true) (hh : ρ.map (fun i => h[i]?) = hC.map (fun x => some (zc (zr ρ h.length) x))) (hok : h.all (zok h.length) = true) (hls : ∀ (f g : Nat → Nat) (L : Array Slot), (∀ i, i < h.length → f i = g i) → ls f L → ls g L) (hst : rest.all (zvok h.length) = true) (hstk : st = (As.map (zv (zr ρ h.length))).reverse ++ .ref (zr ρ h.length a0) :: rest)
    (K : ∀ (r : Option Value) (h' : List zE), Q' r h' → hC.length ≤ h'.length → zL p l e R s m args below meth c D dA A Z (k + rm'.cells) (n + rm'.slots) (pc + 3) ls ((r.map (zv (zr ρ h.length))).toList ++ rest) (zput ρ h h')) : zL p l e R s m args below meth c D dA A Z k n pc ls st h := by
  obtain ⟨rfl, o1, o2, o3, o4, o5, o6, o7, o8, o9, o10⟩ := O
  obtain ⟨⟨c1, c2, c3, c4⟩, c5, c6, c7, c8⟩ := C
  subst hstk
  refine zl_after o9 hnd hh hok hls hst (a := fun ad => (Value.ref (ad (zr ρ h.length a0)) :: As.map (zv (fun i => ad (zr ρ h.length i)))).toArray) ?_ K
  intro ad H locs L hL h3 hPc hDc
  obtain ⟨q, hq⟩ : ∃ q, vwCl[ci]? = some q := by
    cases hx : vwCl[ci]? with
    | none => rw [hx] at c8; cases c8
    | some q => exact ⟨q, rfl⟩
  have hq1 : q.1 = y.cls := by rw [hq] at c8; exact Option.some.inj c8
  have hcw : CallW R s args own y.cls index y cc' nL' ret' (.code y cc' nL' ret' :: zt) rm' rm'.cells rm'.slots np := ⟨callB_of np o5 (zt_goodIn cm) rfl rfl rfl (o5 _ c1) (o5 _ c5) ⟨c2, c3, c4⟩ hR, o5 _ c6, o5 _ c7⟩
  refine va_runV (As := As.map (zv (fun i => ad (zr ρ h.length i)))) (b := ad (zr ρ h.length a0)) ⟨o1, o2, o3, o4, o5⟩ (hM l D dA (fun i => ad (zr ρ h.length i)) H.size) hcw ⟨z_blind, ?_, fun U hU hW => ⟨rfl, by rw [hU], by rw [hU]; exact hPc, va_K.moved hW.alike o8, hDc, zNst.warm hW o10⟩⟩ rfl (by rw [List.length_map]; exact hnA) (hsz _ _ hL) ?_ (lv_room (by rw [z_cat]; exact hrs)) d hf
  · have := va_recv o8 hPc hq (zw_at a0 hrec)
    rw [hq1] at this
    exact this
  · show List.map (zv ad) _ = _
    rw [List.map_append, z_stk ad (zr ρ h.length) As]
    rfl
set_option maxHeartbeats 1000000 in
theorem zl_callI (hsz : ∀ (f : Nat → Nat) (L : Array Slot), ls f L → L.size = nL) (O : zOK own cc nL ret rm p R s m args meth c D dA A) {index np : Nat} {y : MethodName} {cc' : ByteArray} {nL' : Nat} {rm' : Room} {a0 : Nat} {As : List Value} {hC : List zE} {Q' : Option Value → List zE → Prop} {rest : List Value} (ρ : List Nat)
    (C : zCI own index y np) (cm : Cond.code y cc' nL' none ∈ zt) (hM : zMet y cc' nL' none rm' (.ref a0 :: As) hC Q') (d : decode cc pc = .ok (.invokespecial index, 3)) (hR : rm'.frames + 1 ≤ rm.frames ∧ 8 + (nL' + 11) + rm'.locals ≤ rm.locals) (hf : k + rm'.cells ≤ rm.cells ∧ n + rm'.slots ≤ rm.slots) (hnA : As.length = np) (hrs : (rest.map fun v => v.category).sum ≤ 8)
    (hnd : va_nd ρ = true) (hh : ρ.map (fun i => h[i]?) = hC.map (fun x => some (zc (zr ρ h.length) x))) (hok : h.all (zok h.length) = true) (hls : ∀ (f g : Nat → Nat) (L : Array Slot), (∀ i, i < h.length → f i = g i) → ls f L → ls g L) (hst : rest.all (zvok h.length) = true) (hstk : st = (As.map (zv (zr ρ h.length))).reverse ++ .ref (zr ρ h.length a0) :: rest)
    (K : ∀ (r : Option Value) (h' : List zE), Q' r h' → hC.length ≤ h'.length → zL p l e R s m args below meth c D dA A Z (k + rm'.cells) (n + rm'.slots) (pc + 3) ls ((r.map (zv (zr ρ h.length))).toList ++ rest) (zput ρ h h')) : zL p l e R s m args below meth c D dA A Z k n pc ls st h := by
  obtain ⟨rfl, o1, o2, o3, o4, o5, o6, o7, o8, o9, o10⟩ := O
  obtain ⟨⟨c1, c2, c3, c4⟩, c5, c6, c7⟩ := C
  subst hstk
  refine zl_after o9 hnd hh hok hls hst (a := fun ad => (Value.ref (ad (zr ρ h.length a0)) :: As.map (zv (fun i => ad (zr ρ h.length i)))).toArray) ?_ K
  intro ad H locs L hL h3 hPc hDc
  rcases c5 with c5 | ⟨host, c5⟩
  · have hcw : CallB R s args own index y cc' nL' none (.code y cc' nL' none :: zt) rm' rm'.cells rm'.slots np := callB_of np o5 (zt_goodIn cm) rfl rfl rfl (o5 _ c1) (o5 _ c5) ⟨c2, c3, c4⟩ hR
    refine va_runI (As := As.map (zv (fun i => ad (zr ρ h.length i)))) (b := ad (zr ρ h.length a0)) ⟨o1, o2, o3, o4, o5⟩ (hM l D dA (fun i => ad (zr ρ h.length i)) H.size) ⟨hcw, c7, o5 _ c6⟩ ⟨z_blind, fun U hU hW => ⟨rfl, by rw [hU], by rw [hU]; exact hPc, va_K.moved hW.alike o8, hDc, zNst.warm hW o10⟩⟩ rfl (by rw [List.length_map]; exact hnA) (hsz _ _ hL) ?_ (lv_room (by rw [z_cat]; exact hrs)) d hf
    show List.map (zv ad) _ = _
    rw [List.map_append, z_stk ad (zr ρ h.length) As]
    rfl
  · have hcw : va_CN R s args own index y host cc' nL' none (.code y cc' nL' none :: zt) rm' rm'.cells rm'.slots np := va_cnB np o5 (zt_goodIn cm) rfl rfl rfl (o10 _ c5) (o5 _ c1) ⟨c2, c3, c4⟩ hR
    refine va_runIN (As := As.map (zv (fun i => ad (zr ρ h.length i)))) (b := ad (zr ρ h.length a0)) ⟨o1, o2, o3, o4, o5⟩ (hM l D dA (fun i => ad (zr ρ h.length i)) H.size) ⟨hcw, c7, o5 _ c6⟩ ⟨z_blind, fun U hU hW => ⟨rfl, by rw [hU], by rw [hU]; exact hPc, va_K.moved hW.alike o8, hDc, zNst.warm hW o10⟩⟩ rfl (by rw [List.length_map]; exact hnA) (hsz _ _ hL) ?_ (lv_room (by rw [z_cat]; exact hrs)) d hf
    show List.map (zv ad) _ = _
    rw [List.map_append, z_stk ad (zr ρ h.length) As]
    rfl
theorem zl_blkV (hsz : ∀ (f : Nat → Nat) (L : Array Slot), ls f L → L.size = nL) (O : zOK own cc nL ret rm p R s m args meth c D dA A) {index ci np : Nat} {y : MethodName} {cc' : ByteArray} {nL' : Nat} {ret' : Option FieldType} {rm' : Room} {As : List Value} {Q' : Option Value → List zE → Prop} {rest : List Value} {fs : List Value} (o : Nat) (H1 blk H2 : List zE) (hh : h = H1 ++ (blk.map (zc (fun i => i + o)) ++ H2)) (ho : H1.length = o)
    (C : zCV own index y ci np) (cm : Cond.code y cc' nL' ret' ∈ zt) (hM : zMet y cc' nL' ret' rm' (.ref 0 :: As) blk Q') (d : decode cc pc = .ok (.invokevirtual index, 3)) (hR : rm'.frames + 1 ≤ rm.frames ∧ 8 + (nL' + 11) + rm'.locals ≤ rm.locals) (hf : k + rm'.cells ≤ rm.cells ∧ n + rm'.slots ≤ rm.slots) (hnA : As.length = np) (hrec : blk[0]? = some (.inr (ci, fs))) (hrs : (rest.map fun v => v.category).sum ≤ 8)
    (hok : h.all (zok h.length) = true) (hls : ∀ (f g : Nat → Nat) (L : Array Slot), (∀ i, i < h.length → f i = g i) → ls f L → ls g L) (hst : rest.all (zvok h.length) = true) (hAs : As.all (zvok 0) = true) (hb : blk.all (zok blk.length) = true) (hw : ∀ r h', Q' r h' → h'.length = blk.length ∧ h'.all (zok blk.length) = true) (hstk : st = As.reverse ++ .ref o :: rest)
    (K : ∀ (r : Option Value) (h' : List zE), Q' r h' → zL p l e R s m args below meth c D dA A Z (k + rm'.cells) (n + rm'.slots) (pc + 3) ls ((r.map (zv (zr ((List.range blk.length).map (fun j => j + o)) h.length))).toList ++ rest) (H1 ++ (h'.map (zc (fun i => i + o)) ++ H2))) : zL p l e R s m args below meth c D dA A Z k n pc ls st h := by
  have h0 : 0 < blk.length := (List.getElem?_eq_some_iff.mp hrec).1
  have hAs2 : As.map (zv (zr ((List.range blk.length).map (fun j => j + o)) h.length)) = As := by
    conv => rhs; rw [← List.map_id As]
    apply List.map_congr_left
    intro v hv
    rw [zv_eq (g := fun i => i) (N := 0) (fun i hi => absurd hi (Nat.not_lt_zero i)) (List.all_eq_true.mp hAs v hv)]
    exact zv_id v
  refine zl_callV hsz O ((List.range blk.length).map (fun j => j + o)) C cm hM d hR hf hnA hrec hrs (nd_blk _ _) ?_ hok hls hst (by rw [hAs2, zr_blk h0, Nat.zero_add]; exact hstk) (fun r h' hq hl => ?_)
  · apply List.ext_getElem?
    intro j
    rw [List.getElem?_map, List.getElem?_map, List.getElem?_map]
    by_cases hj : j < blk.length
    · rw [List.getElem?_range hj, List.getElem?_eq_getElem hj]
      show some (h[j + o]?) = some (some _)
      rw [zc_eq (g := fun i => i + o) (fun i hi => zr_blk hi) (List.all_eq_true.mp hb _ (List.getElem_mem hj)), hh, List.getElem?_append_right (by omega), List.getElem?_append_left (by rw [List.length_map]; omega), List.getElem?_map, ho, Nat.add_sub_cancel, List.getElem?_eq_getElem hj]; rfl
    · rw [List.getElem?_eq_none (by simpa using hj), List.getElem?_eq_none (by omega)]; rfl
  · obtain ⟨w1, w2⟩ := hw r h' hq
    have := K r h' hq
    rw [hh, zput_blk ho w1 w2, ← hh]
    exact this
theorem zl_new (O : zOK own cc nL ret rm p R s m args meth c D dA A) {index ci N : Nat} {C : String} {T : u_T} {ty : Nat → FieldType} {fs : List Value} (d : decode cc pc = .ok (.new index, 3)) (hc : vwCl[ci]? = some (C, T, N)) (hin : ∀ w ∈ u_ws C T N, w ∈ zt) (hty : ∀ k, k < N → parseFieldDescriptor (T k).2.2.1 = some (ty k)) (w1 : Cond.classLink own index C ∈ zt) (w2 : Cond.instantiable C N ∈ zt) (w3 : Cond.initialized C ∈ zt) (hfs : ∀ j, j < N → defaultValue (ty j) = vp_V fs j) (hfo : zok 0 (.inr (ci, fs)) = true) (hk : k + 1 ≤ rm.cells) (hn : n + N ≤ rm.slots)
    (hok : h.all (zok h.length) = true) (hls : ∀ (f g : Nat → Nat) (L : Array Slot), (∀ i, i < h.length → f i = g i) → ls f L → ls g L) (hst : st.all (zvok h.length) = true) (K : zL p l e R s m args below meth c D dA A Z (k + 1) (n + N) (pc + 3) ls (.ref h.length :: st) (h ++ [.inr (ci, fs)])) : zL p l e R s m args below meth c D dA A Z k n pc ls st h := by
  obtain ⟨rfl, o1, o2, o3, o4, o5, o6, o7, o8, o9, o10⟩ := O
  intro ad H locs L h2 h3 h4 h5
  refine va_new (ci := ci) (fs := fs) (C := C) (T := T) (N := N) o1 o2 o5 hin ty hty o4 (o5 _ w1) (o5 _ w2) (o5 _ w3) o8 h3 h4 h5 o9 hc hfs hk hn d (fun q H1 hP hD hS => ?_)
  have hfg : ∀ i, i < h.length → ad i = (fun j => if j = h.length then q else ad j) i := fun i hi => by
    show ad i = (if i = h.length then q else ad i)
    rw [if_neg (by omega)]
  have he : zD dA (zc ad (.inr (ci, fs))) = .inr (ci, fs) := by
    have : fs.map (zv ad) = fs := by
      conv => rhs; rw [← List.map_id fs]
      apply List.map_congr_left
      intro v hv
      have h6 := List.all_eq_true.mp hfo v hv
      cases v with
      | ref a => simp [zvok] at h6
      | _ => rfl
    show Sum.inr (ci, fs.map (zv ad)) = _
    rw [this]
  have hw := z_newcell (dA := dA) (ad := ad) (H1 := H1) (q := q) hok hfo
  rw [he] at hw
  have := K (fun j => if j = h.length then q else ad j) H1 locs L (hls _ _ _ hfg h2) (by rw [hw]; exact hP) (by rw [hw]; exact hD) hS
  rw [List.map_cons, ← zs_ext hfg hst] at this
  rw [show zv (fun j => if j = h.length then q else ad j) (.ref h.length) = .ref q by show Value.ref (if h.length = h.length then q else _) = _; rw [if_pos rfl]] at this
  exact this
theorem zl_widen {k' n' : Nat} (hk : k ≤ k') (hn : n ≤ n') (K : zL p l e R s m args below meth c D dA A Z k' n' pc ls st h) : zL p l e R s m args below meth c D dA A Z k n pc ls st h :=
  fun ad H locs L h2 h3 h4 h5 => W.widen hk hn (K ad H locs L h2 h3 h4 h5)
theorem zl_h {h' : List zE} (hl : h = h') (K : zL p l e R s m args below meth c D dA A Z k n pc ls st h') : zL p l e R s m args below meth c D dA A Z k n pc ls st h := hl ▸ K
theorem zl_st {st' : List Value} (hl : st = st') (K : zL p l e R s m args below meth c D dA A Z k n pc ls st' h) : zL p l e R s m args below meth c D dA A Z k n pc ls st h := hl ▸ K
theorem zl_dup (O : zOK own cc nL ret rm p R s m args meth c D dA A) {v : Value} (d : decode cc pc = .ok (.dup, 1)) (hv : v.category = 1) (K : zL p l e R s m args below meth c D dA A Z k n (pc + 1) ls (v :: v :: st) h) : zL p l e R s m args below meth c D dA A Z k n pc ls (v :: st) h :=
  fun ad H locs L h2 h3 h4 h5 => lv_dup O.2.1 O.2.2.1 d (by rw [zv_cat]; exact hv) (K ad H locs L h2 h3 h4 h5)
theorem zl_goto (O : zOK own cc nL ret rm p R s m args meth c D dA A) {off : Int} (tgt : Nat) (d : decode cc pc = .ok (.goto off, 3)) (ht : (pc : Int) + off = (tgt : Int)) (K : zL p l e R s m args below meth c D dA A Z k n tgt ls st h) : zL p l e R s m args below meth c D dA A Z k n pc ls st h :=
  fun ad H locs L h2 h3 h4 h5 => lv_goto O.2.1 O.2.2.1 d ht (K ad H locs L h2 h3 h4 h5)
theorem zl_same (O : zOK own cc nL ret rm p R s m args meth c D dA A) {x : Int32} {off : Int} (tgt : Nat) (d : decode cc pc = .ok (.if_icmp .eq off, 3)) (ht : (pc : Int) + off = (tgt : Int)) (K : zL p l e R s m args below meth c D dA A Z k n tgt ls st h) : zL p l e R s m args below meth c D dA A Z k n pc ls (.int x :: .int x :: st) h :=
  fun ad H locs L h2 h3 h4 h5 => lv_icmp_eq O.2.1 O.2.2.1 d ht (fun _ => K ad H locs L h2 h3 h4 h5) (fun z => absurd rfl z)
theorem zl_tableOut (O : zOK own cc nL ret rm p R s m args meth c D dA A) {dflt lo hi : Int} {offs : Array Int} {len : Nat} {x : Int32} (tgt : Nat) (d : decode cc pc = .ok (.tableswitch dflt lo hi offs, len)) (hx : x.toInt < lo ∨ hi < x.toInt) (ht : (pc : Int) + dflt = (tgt : Int)) (K : zL p l e R s m args below meth c D dA A Z k n tgt ls st h) : zL p l e R s m args below meth c D dA A Z k n pc ls (.int x :: st) h :=
  fun ad H locs L h2 h3 h4 h5 => lv_tableOut O.2.1 O.2.2.1 d hx ht (K ad H locs L h2 h3 h4 h5)
theorem zl_tableIn (O : zOK own cc nL ret rm p R s m args meth c D dA A) {dflt lo hi : Int} {offs : Array Int} {len : Nat} {x : Int32} {off : Int} (tgt : Nat) (d : decode cc pc = .ok (.tableswitch dflt lo hi offs, len)) (hx1 : ¬ x.toInt < lo) (hx2 : ¬ hi < x.toInt) (ho : offs[(x.toInt - lo).toNat]? = some off) (ht : (pc : Int) + off = (tgt : Int)) (K : zL p l e R s m args below meth c D dA A Z k n tgt ls st h) : zL p l e R s m args below meth c D dA A Z k n pc ls (.int x :: st) h :=
  fun ad H locs L h2 h3 h4 h5 => lv_tableIn O.2.1 O.2.2.1 d hx1 hx2 ho ht (K ad H locs L h2 h3 h4 h5)
/-- a reference that stands in a local -/
theorem zl_aload (O : zOK own cc nL ret rm p R s m args meth c D dA A) {i : Fin 4} (x : Nat) (d : decode cc pc = .ok (.aload_n i, 1)) (hl : ∀ (f : Nat → Nat) (L : Array Slot), ls f L → L[i.val]? = some (.val (.ref (f x)))) (K : zL p l e R s m args below meth c D dA A Z k n (pc + 1) ls (.ref x :: st) h) : zL p l e R s m args below meth c D dA A Z k n pc ls st h :=
  fun ad H locs L h2 h3 h4 h5 => lv_aload_n O.2.1 O.2.2.1 d rfl (hl ad L h2) (K ad H locs L h2 h3 h4 h5)
/-- the script's int at i + j -/
theorem zl_arg (O : zOK own cc nL ret rm p R s m args meth c D dA A) {b Ln : Nat} {xs : Nat → Int32} (hX : va_X b Ln xs s s.heap) (hbl : b < s.heap.size) (hbA : ¬ A b) (hLn : Ln ≤ 3072) {i j : Nat} {z : Int} (hij : i + j < Ln) (hz : Int32.ofInt z = nI j)
    (hl : ∀ (f : Nat → Nat) (L : Array Slot), ls f L → L[0]? = some (.val (.ref b)) ∧ L[3]? = some (.val (.int (nI i)))) (d1 : decode cc pc = .ok (.aload_n 0, 1)) (d2 : decode cc (pc + 1) = .ok (.iload_n 3, 1)) (d3 : decode cc (pc + 2) = .ok (.iconst z, 1)) (d4 : decode cc (pc + 3) = .ok (.iadd, 1)) (d5 : decode cc (pc + 4) = .ok (.iaload, 1))
    (K : zL p l e R s m args below meth c D dA A Z k n (pc + 5) ls (.int (xs (i + j)) :: st) h) : zL p l e R s m args below meth c D dA A Z k n pc ls st h := by
  intro ad H locs L h2 h3 h4 h5
  obtain ⟨l0, l3⟩ := hl ad L h2
  refine lv_aload_n O.2.1 O.2.2.1 d1 rfl l0 ?_
  refine lv_iload_n O.2.1 O.2.2.1 d2 rfl l3 ?_
  refine lv_iconst (v := nI j) O.2.1 O.2.2.1 d3 hz ?_
  refine lv_iadd O.2.1 O.2.2.1 d4 ?_
  rw [show nI i + nI j = nI (i + j) from nI_add i j]
  refine va_sld O.2.1 O.2.2.1 hX hbl hbA h5 (vp_in_nI hij (by omega)) d5 ?_
  rw [nI_clamp (by omega)]
  exact K ad H locs L h2 h3 h4 h5
/-- the script's int at i -/
theorem zl_arg0 (O : zOK own cc nL ret rm p R s m args meth c D dA A) {b Ln : Nat} {xs : Nat → Int32} (hX : va_X b Ln xs s s.heap) (hbl : b < s.heap.size) (hbA : ¬ A b) (hLn : Ln ≤ 3072) {i : Nat} (hij : i < Ln)
    (hl : ∀ (f : Nat → Nat) (L : Array Slot), ls f L → L[0]? = some (.val (.ref b)) ∧ L[3]? = some (.val (.int (nI i)))) (d1 : decode cc pc = .ok (.aload_n 0, 1)) (d2 : decode cc (pc + 1) = .ok (.iload_n 3, 1)) (d5 : decode cc (pc + 2) = .ok (.iaload, 1)) (d6 : decode cc (pc + 3) = .ok (.bipush 15, 2)) (d7 : decode cc (pc + 5) = .ok (.iand, 1))
    (K : zL p l e R s m args below meth c D dA A Z k n (pc + 6) ls (.int (xs i &&& 15) :: st) h) : zL p l e R s m args below meth c D dA A Z k n pc ls st h := by
  intro ad H locs L h2 h3 h4 h5
  obtain ⟨l0, l3⟩ := hl ad L h2
  refine lv_aload_n O.2.1 O.2.2.1 d1 rfl l0 ?_
  refine lv_iload_n O.2.1 O.2.2.1 d2 rfl l3 ?_
  refine va_sld O.2.1 O.2.2.1 hX hbl hbA h5 (vp_in_nI hij (by omega)) d5 ?_
  rw [nI_clamp (by omega)]
  refine lv_bipush (v := 15) O.2.1 O.2.2.1 d6 (by decide) ?_
  refine lv_iand O.2.1 O.2.2.1 d7 ?_
  exact K ad H locs L h2 h3 h4 h5
/-- is it not zero -/
theorem zl_bool (O : zOK own cc nL ret rm p R s m args meth c D dA A) {x : Int32} (d1 : decode cc pc = .ok (.ifCond .eq 7, 3)) (d2 : decode cc (pc + 3) = .ok (.iconst 1, 1)) (d3 : decode cc (pc + 4) = .ok (.goto 4, 3)) (d4 : decode cc (pc + 7) = .ok (.iconst 0, 1))
    (K : zL p l e R s m args below meth c D dA A Z k n (pc + 8) ls (.int (bI (decide (¬ x = 0))) :: st) h) : zL p l e R s m args below meth c D dA A Z k n pc ls (.int x :: st) h := by
  intro ad H locs L h2 h3 h4 h5
  have K := K ad H locs L h2 h3 h4 h5
  refine lv_if_eq (tgt := pc + 7) O.2.1 O.2.2.1 d1 (by omega) (fun z => ?_) (fun z => ?_)
  · refine lv_iconst (v := nI 0) O.2.1 O.2.2.1 d4 (by decide) ?_
    rw [decide_eq_false (fun w => w z)] at K
    exact K
  · refine lv_iconst (v := nI 1) O.2.1 O.2.2.1 d2 (by decide) ?_
    refine lv_goto (tgt := pc + 8) O.2.1 O.2.2.1 d3 (by omega) ?_
    rw [decide_eq_true z] at K
    exact K
end ZL
