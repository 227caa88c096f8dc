/-! CALLS: the callee's cells are those at the places ρ of the caller's; what it makes comes behind the caller's -/
def zr (ρ : List Nat) (N i : Nat) : Nat := (ρ[i]?).getD (N + (i - ρ.length))
def zset : List Nat → List zE → List zE → List zE
  | i :: ρ, e :: es, h => zset ρ es (h.set i e)
  | [], _, h => h
  | _ :: _, [], h => h
def zput (ρ : List Nat) (h h' : List zE) : List zE := zset ρ (h'.map (zc (zr ρ h.length))) h ++ (h'.drop ρ.length).map (zc (zr ρ h.length))
theorem zset_len : ∀ (ρ : List Nat) (es h : List zE), (zset ρ es h).length = h.length
  | i :: ρ, e :: es, h => by rw [zset, zset_len, List.length_set]
  | [], _, _ => by rw [zset]
  | _ :: _, [], _ => by rw [zset]
theorem zset_out : ∀ (ρ : List Nat) (es h : List zE) (j : Nat), j ∉ ρ → (zset ρ es h)[j]? = h[j]?
  | i :: ρ, e :: es, h, j, hj => by
    rw [zset, zset_out ρ es _ j (fun z => hj (List.mem_cons_of_mem _ z)), List.getElem?_set_ne (fun z => hj (by rw [z]; exact List.mem_cons_self))]
  | [], _, _, _, _ => by rw [zset]
  | _ :: _, [], _, _, _ => by rw [zset]
theorem zset_in : ∀ (ρ : List Nat) (es h : List zE) (i j : Nat) (e : zE), va_nd ρ = true → ρ[i]? = some j → es[i]? = some e → j < h.length → (zset ρ es h)[j]? = some e
  | [], _, _, i, j, e, _, h1, _, _ => by simp at h1
  | _ :: _, [], _, i, j, e, _, _, h2, _ => by simp at h2
  | a :: ρ, b :: es, h, i, j, e, hn, h1, h2, h3 => by
    simp only [va_nd, Bool.and_eq_true, decide_eq_true_eq] at hn
    rw [zset]
    cases i with
    | zero =>
      rw [List.getElem?_cons_zero] at h1 h2
      cases h1; cases h2
      rw [zset_out ρ es _ a hn.1, List.getElem?_set_self h3]
    | succ i =>
      rw [List.getElem?_cons_succ] at h1 h2
      exact zset_in ρ es _ i j e hn.2 h1 h2 (by rw [List.length_set]; exact h3)
section ZC
variable {own : String} {cc : ByteArray} {nL : Nat} {ret : Option FieldType} {rm : Room} {p : Program} {l : Launch} {e : Env} {R : Room} {s : State} {m : MethodId} {args : Array Value} {below : List Frame} {meth : Method} {c : Code} {D : va_G} {dA : Nat → ClassId} {A : Nat → Prop} {ad0 : Nat → Nat} {n0 : Nat} {Q : Option Value → List zE → Prop} {mc ms k n pc : Nat} {ls : List (Option Value)} {st : List Value} {h : List zE}
theorem z_sub {ρ : List Nat} {hC : List zE} (hh : ρ.map (fun i => h[i]?) = hC.map (fun x => some (zc (zr ρ h.length) x))) (ad : Nat → Nat) : ρ.map (fun i => (zw dA ad h)[i]?) = (zw dA (fun i => ad (zr ρ h.length i)) hC).map some := by
  apply List.ext_getElem?
  intro i
  have hi := congrArg (fun l => l[i]?) hh
  simp only [List.getElem?_map] at hi ⊢
  cases hρ : ρ[i]? with
  | none =>
    rw [hρ] at hi
    cases hx : hC[i]? with
    | none =>
      have hz : (zw dA (fun i => ad (zr ρ h.length i)) hC)[i]? = none := by rw [zw, List.getElem?_mapIdx, hx]; rfl
      rw [hz]; rfl
    | some x => rw [hx] at hi; cases hi
  | some j =>
    rw [hρ] at hi
    cases hx : hC[i]? with
    | none => rw [hx] at hi; cases hi
    | some x =>
      rw [hx] at hi
      have h1 : h[j]? = some (zc (zr ρ h.length) x) := Option.some.inj hi
      rw [zw_at i hx]
      show some ((zw dA ad h)[j]?) = some (some _)
      rw [zw_at j h1, zc_comp]
      have h2 : zr ρ h.length i = j := by rw [zr, hρ]; rfl
      rw [h2]
set_option maxHeartbeats 1000000 in
theorem zi_after (hA : ∀ q, s.heap.size ≤ q → A q) {ρ : List Nat} {hC : List zE} {Q' : Option Value → List zE → Prop} {st0 rest : List Value} {mc' ms' : Nat} {a : (Nat → Nat) → Array Value} (hnd : va_nd ρ = true) (hh : ρ.map (fun i => h[i]?) = hC.map (fun x => some (zc (zr ρ h.length) x))) (hok : h.all (zok h.length) = true) (hls : ls.all (zlok h.length) = true) (hst : rest.all (zvok h.length) = true) (hn0 : n0 ≤ h.length)
    (run : ∀ (ad : Nat → Nat) (H : Heap) (locs : List Loc) (L : Array Slot), lv_has L nL (zl ad ls) → va_P D vwCl (zw dA ad h) H → va_P D vwCl (zw dA (fun i => ad (zr ρ h.length i)) hC) H → va_D (fun _ => True) (zw dA (fun i => ad (zr ρ h.length i)) hC) →
      va_Run p l e R s m args below meth c H locs k n mc' ms' (F0 m pc L (st0.map (zv ad))) (rest.map (zv ad)) (zQc D dA (va_A (zw dA (fun i => ad (zr ρ h.length i)) hC) H.size) (fun i => ad (zr ρ h.length i)) hC.length Q' (a ad)) (va_A (zw dA (fun i => ad (zr ρ h.length i)) hC) H.size))
    (K : ∀ (r : Option Value) (h' : List zE), Q' r h' → hC.length ≤ h'.length → zG p l e R s m args below meth c D dA A ad0 n0 nL Q mc ms (k + mc') (n + ms') (pc + 3) ls ((r.map (zv (zr ρ h.length))).toList ++ rest) (zput ρ h h')) : zG p l e R s m args below meth c D dA A ad0 n0 nL Q mc ms k n pc ls st0 h := by
  intro ad H locs L h1 h2 h3 h4 h5
  have hlen : ρ.length = hC.length := by simpa using congrArg List.length hh
  have hsub := z_sub (dA := dA) hh ad
  have hρlt : ∀ i j : Nat, ρ[i]? = some j → j < h.length := by
    intro i j hi
    have h6 := congrArg (fun l => l[i]?) hh
    simp only [List.getElem?_map, hi] at h6
    cases hx : hC[i]? with
    | none => rw [hx] at h6; cases h6
    | some x => rw [hx] at h6; exact (List.getElem?_eq_some_iff.mp (Option.some.inj h6)).1
  generalize hadC : (fun i => ad (zr ρ h.length i)) = adC at hsub
  have at' : ∀ (i : Nat) (q : Nat × va_E), (zw dA adC hC)[i]? = some q → ∃ j, ρ[i]? = some j ∧ (zw dA ad h)[j]? = some q := by
    intro i q hq
    have h6 : (ρ.map (fun i => (zw dA ad h)[i]?))[i]? = some (some q) := by rw [hsub, List.getElem?_map, hq]; rfl
    rw [List.getElem?_map] at h6
    cases hi : ρ[i]? with
    | none => rw [hi] at h6; cases h6
    | some j => rw [hi] at h6; exact ⟨j, rfl, Option.some.inj h6⟩
  have hPc : va_P D vwCl (zw dA adC hC) H := by
    intro i q hq
    obtain ⟨j, -, hj⟩ := at' i q hq
    exact h3 j q hj
  have hDc : va_D A (zw dA adC hC) := h4.sub ρ hnd hsub
  have hFc : ∀ q, va_A (zw dA adC hC) H.size q → A q := va_free h4 h5 hA ρ hsub
  have run := run ad H locs L h2 h3 (by rw [hadC]; exact hPc) (by rw [hadC]; exact hDc.weaken (fun _ _ _ _ => trivial))
  rw [hadC] at run
  intro T hT X
  obtain ⟨v, st₀, t, T', L', e0, X', hL, e1, e2, ⟨⟨r, h', ad', hv, hq, had, hlen', hP', hK', hD'⟩, hz, hk⟩, stp⟩ := run T hT X
  cases hv
  rw [e0] at hz hk
  obtain ⟨ad2, had2⟩ : ∃ ad2 : Nat → Nat, ad2 = fun j => if j < h.length then ad j else ad' (ρ.length + (j - h.length)) := ⟨_, rfl⟩
  have hfg : ∀ i, i < h.length → ad i = ad2 i := fun i hi => by rw [had2]; exact (if_pos hi).symm
  have hcomp : ∀ i, ad2 (zr ρ h.length i) = ad' i := by
    intro i
    by_cases hi : i < ρ.length
    · have hj : ρ[i]? = some ρ[i] := List.getElem?_eq_getElem hi
      have hz1 : zr ρ h.length i = ρ[i] := by rw [zr, hj]; rfl
      rw [had i (by omega), ← hadC]
      show ad2 (zr ρ h.length i) = ad (zr ρ h.length i)
      rw [hz1, hfg _ (hρlt i _ hj)]
    · have hj : ρ[i]? = none := List.getElem?_eq_none (by omega)
      have hz1 : zr ρ h.length i = h.length + (i - ρ.length) := by rw [zr, hj]; rfl
      rw [hz1, had2]
      show (if h.length + (i - ρ.length) < h.length then _ else _) = _
      rw [if_neg (by omega)]
      congr 1
      omega
  have hzc : ∀ x, zc ad2 (zc (zr ρ h.length) x) = zc ad' x := by
    intro x
    rw [zc_comp]
    congr 1
    funext i
    exact hcomp i
  have key : ∀ (j : Nat) (q : Nat × va_E), (zw dA ad2 (zput ρ h h'))[j]? = some q → (∃ (i : Nat) (x : zE), h'[i]? = some x ∧ q = (ad' i, zD dA (zc ad' x)) ∧ zr ρ h.length i = j) ∨ (j < h.length ∧ j ∉ ρ ∧ (zw dA ad h)[j]? = some q) := by
    intro j q hj
    obtain ⟨x, hx, rfl⟩ := zw_inv hj
    rw [zput] at hx
    by_cases hl : j < h.length
    · rw [List.getElem?_append_left (by rw [zset_len]; exact hl)] at hx
      by_cases hm : j ∈ ρ
      · obtain ⟨i, hi⟩ := List.getElem?_of_mem hm
        have hil : i < ρ.length := (List.getElem?_eq_some_iff.mp hi).1
        have hy : h'[i]? = some h'[i] := List.getElem?_eq_getElem (by omega)
        rw [zset_in ρ _ h i j _ hnd hi (by rw [List.getElem?_map, hy]; rfl) hl] at hx
        cases hx
        have hzi : zr ρ h.length i = j := by rw [zr, hi]; rfl
        refine Or.inl ⟨i, _, hy, ?_, hzi⟩
        rw [hzc, ← hcomp i, hzi]
      · rw [zset_out _ _ _ _ hm] at hx
        refine Or.inr ⟨hl, hm, ?_⟩
        rw [zw_at j hx, hfg j hl, zc_eq hfg (List.all_eq_true.mp hok x (List.mem_of_getElem? hx))]
    · rw [List.getElem?_append_right (by rw [zset_len]; omega), zset_len, List.getElem?_map, List.getElem?_drop] at hx
      cases hy : h'[ρ.length + (j - h.length)]? with
      | none => rw [hy] at hx; cases hx
      | some y =>
        rw [hy] at hx
        cases hx
        have hzi : zr ρ h.length (ρ.length + (j - h.length)) = j := by
          rw [zr, List.getElem?_eq_none (by omega)]
          show h.length + _ = j
          omega
        refine Or.inl ⟨_, y, hy, ?_, hzi⟩
        rw [hzc, ← hcomp, hzi]
  have apart : ∀ (j : Nat) (q : Nat × va_E), j ∉ ρ → (zw dA ad h)[j]? = some q → q.1 < H.size ∧ ¬ va_A (zw dA adC hC) H.size q.1 := by
    intro j q hm hq2
    have hl := (h3 j q hq2).lt
    refine ⟨hl, fun hz2 => ?_⟩
    rcases hz2 with ⟨k2, x, hx⟩ | hx
    · obtain ⟨j2, hj2, hj3⟩ := at' k2 (q.1, x) hx
      have := h4.1 j j2 q (q.1, x) hq2 hj3 rfl
      subst this
      exact hm (List.mem_of_getElem? hj2)
    · omega
  have hP2 : va_P D vwCl (zw dA ad2 (zput ρ h h')) T'.heap := by
    intro j q hj
    rw [e1]
    rcases key j q hj with ⟨i, x, hx, rfl, -⟩ | ⟨hl, hm, hq2⟩
    · exact hP' i _ (zw_at i hx)
    · obtain ⟨a1, a2⟩ := apart j q hm hq2
      exact (h3 j q hq2).kept (hk q.1 a1 a2)
  have hD2 : va_D A (zw dA ad2 (zput ρ h h')) := by
    refine ⟨fun i j x y hi hj hxy => ?_, fun j q hj => ?_⟩
    · rcases key i x hi with ⟨i1, x1, a1, rfl, a3⟩ | ⟨a1, a2, a3⟩ <;> rcases key j y hj with ⟨i2, x2, b1, rfl, b3⟩ | ⟨b1, b2, b3⟩
      · have := hD'.1 i1 i2 _ _ (zw_at i1 a1) (zw_at i2 b1) hxy
        rw [← a3, ← b3, this]
      · exact absurd (by rw [← hxy]; exact hD'.2 i1 _ (zw_at i1 a1)) (apart j y b2 b3).2
      · exact absurd (by rw [hxy]; exact hD'.2 i2 _ (zw_at i2 b1)) (apart i x a2 a3).2
      · exact h4.1 i j x y a3 b3 hxy
    · rcases key j q hj with ⟨i1, x1, a1, rfl, a3⟩ | ⟨a1, a2, a3⟩
      · exact hFc _ (hD'.2 i1 _ (zw_at i1 a1))
      · exact h4.2 j q a3
  have hS2 : va_S A s.heap T'.heap (locs ++ L') := by
    refine ⟨Nat.le_trans h5.1 (by rw [e1]; exact hz), fun q a1 a2 => ?_, fun q hq => ?_⟩
    · rw [e1, hk q (Nat.lt_of_lt_of_le a1 h5.1) (fun z => a2 (hFc q z))]
      exact h5.2.1 q a1 a2
    · rcases List.mem_append.mp hq with h | h
      · exact h5.2.2 q h
      · exact hFc _ (hL q h)
  obtain ⟨t2, s1, s2⟩ := K r h' hq hlen' ad2 T'.heap (locs ++ L') L (fun i hi => by rw [← hfg i (by omega)]; exact h1 i hi) (zl_ext hfg hls h2) hP2 hD2 hS2 T' rfl X'
  refine ⟨t2, stp t2 ?_, s2⟩
  have e3 : ((r.map (zv (zr ρ h.length))).toList ++ rest).map (zv ad2) = (r.map (zv ad')).toList ++ rest.map (zv ad) := by
    rw [List.map_append, ← zs_ext hfg hst]
    congr 1
    cases r with
    | none => rfl
    | some v =>
      show [zv ad2 (zv _ v)] = [zv ad' v]
      rw [zv_comp]
      congr 2
      funext i
      exact hcomp i
  rw [e3] at s1
  exact s1

theorem zt_goodIn {w : Cond} (h : w ∈ zt) : GoodIn zt (w :: zt) := by
  intro v hv
  rcases List.mem_cons.mp hv with rfl | hv
  · exact ⟨h, good_of_word (zt_good h)⟩
  · exact ⟨hv, good_of_word (zt_good hv)⟩
/-- what a call at an entry of the pool says: the method, its class's number, how many arguments -/
def zCB (y : MethodName) (np : Nat) : Prop := Cond.initialized y.cls ∈ zt ∧ y.cls ≠ "java/lang/invoke/MethodHandle" ∧ y.cls ≠ "java/lang/invoke/VarHandle" ∧ (parseMethodDescriptor y.desc).map (fun d => d.parameters.length) = some np
def zCV (own : String) (index : Nat) (y : MethodName) (ci np : Nat) : Prop := zCB y np ∧ Cond.methodLink own index y ∈ zt ∧ Cond.instanceMethod y ∈ zt ∧ Cond.selects y.cls y y ∈ zt ∧ (vwCl[ci]?).map (fun x => x.1) = some y.cls
def zCS (own : String) (index : Nat) (y : MethodName) (np : Nat) : Prop := zCB y np ∧ Cond.methodLink own index y ∈ zt ∧ Cond.static y ∈ zt
def zCI (own : String) (index : Nat) (y : MethodName) (np : Nat) : Prop := zCB y np ∧ (Cond.methodLink own index y ∈ zt ∨ ∃ host, (own, index, y, host) ∈ zNs) ∧ Cond.instanceMethod y ∈ zt ∧ y.name = "<init>"
theorem z_blind {av : List Value} {D : va_G} {dA : Nat → ClassId} {sz : Nat} {w : va_W} : FrameBlind (va_Pc av (fun U => U.heap.size = sz ∧ va_P D vwCl w U.heap ∧ va_K D vwCl (ztys dA) U ∧ va_D (fun _ => True) w ∧ zNst U)) := by
  intro a U g mk q
  obtain ⟨q0, q1, qP, qK, qD, qN⟩ := q
  exact ⟨q0, q1, qP, va_K.moved (u := U) (U := U.calling g mk a) (Vm.Alike.refl U.vm) qK, qD, fun x hx => va_Nw.same rfl (u := U) (U := U.calling g mk a) rfl (qN x hx)⟩
theorem z_stk (f g : Nat → Nat) (As : List Value) : (As.map (zv (fun i => f (g i)))).reverse = ((As.map (zv g)).reverse).map (zv f) := by
  rw [List.map_reverse, List.map_map]
  congr 1
  apply List.map_congr_left
  intro v _
  exact (zv_comp f g v).symm
theorem z_cat (f : Nat → Nat) (st : List Value) : (st.map (zv f)).map (fun v => v.category) = st.map (fun v => v.category) := by
  rw [List.map_map]
  apply List.map_congr_left
  intro v _
  exact zv_cat f v
set_option maxHeartbeats 1000000 in
theorem zi_callV (O : zOK own cc nL ret rm p R s m args meth c D dA A) {index ci np : Nat} {y : MethodName} {cc' : ByteArray} {nL' : Nat} {ret' : Option FieldType} {rm' : Room} {a0 : Nat} {As : List Value} {hC : List zE} {Q' : Option Value → List zE → Prop} {rest : List Value} {fs : List Value} (ρ : List Nat)
    (C : zCV own index y ci np) (cm : Cond.code y cc' nL' ret' ∈ zt) (hM : zMet y cc' nL' ret' rm' (.ref a0 :: As) hC Q') (d : decode cc pc = .ok (.invokevirtual index, 3)) (hR : rm'.frames + 1 ≤ rm.frames ∧ 8 + (nL' + 11) + rm'.locals ≤ rm.locals) (hf : k + rm'.cells ≤ rm.cells ∧ n + rm'.slots ≤ rm.slots) (hnA : As.length = np) (hrec : hC[a0]? = some (.inr (ci, fs))) (hrs : (rest.map fun v => v.category).sum ≤ 8)
    (hnd : va_nd ρ = true) (hh : ρ.map (fun i => h[i]?) = hC.map (fun x => some (zc (zr ρ h.length) x))) (hok : h.all (zok h.length) = true) (hls : ls.all (zlok h.length) = true) (hst : rest.all (zvok h.length) = true) (hn0 : n0 ≤ h.length) (hstk : st = (As.map (zv (zr ρ h.length))).reverse ++ .ref (zr ρ h.length a0) :: rest)
    (K : ∀ (r : Option Value) (h' : List zE), Q' r h' → hC.length ≤ h'.length → zG p l e R s m args below meth c D dA A ad0 n0 nL Q mc ms (k + rm'.cells) (n + rm'.slots) (pc + 3) ls ((r.map (zv (zr ρ h.length))).toList ++ rest) (zput ρ h h')) : zG p l e R s m args below meth c D dA A ad0 n0 nL Q mc ms k n pc ls st h := by
  obtain ⟨rfl, o1, o2, o3, o4, o5, o6, o7, o8, o9, o10⟩ := O
  obtain ⟨⟨c1, c2, c3, c4⟩, c5, c6, c7, c8⟩ := C
  subst hstk
  refine zi_after o9 hnd hh hok hls hst hn0 (a := fun ad => (Value.ref (ad (zr ρ h.length a0)) :: As.map (zv (fun i => ad (zr ρ h.length i)))).toArray) ?_ K
  intro ad H locs L hL h3 hPc hDc
  obtain ⟨q, hq⟩ : ∃ q, vwCl[ci]? = some q := by
    cases hx : vwCl[ci]? with
    | none => rw [hx] at c8; cases c8
    | some q => exact ⟨q, rfl⟩
  have hq1 : q.1 = y.cls := by rw [hq] at c8; exact Option.some.inj c8
  have hcw : CallW R s args own y.cls index y cc' nL' ret' (.code y cc' nL' ret' :: zt) rm' rm'.cells rm'.slots np := ⟨callB_of np o5 (zt_goodIn cm) rfl rfl rfl (o5 _ c1) (o5 _ c5) ⟨c2, c3, c4⟩ hR, o5 _ c6, o5 _ c7⟩
  refine va_runV (As := As.map (zv (fun i => ad (zr ρ h.length i)))) (b := ad (zr ρ h.length a0)) ⟨o1, o2, o3, o4, o5⟩ (hM l D dA (fun i => ad (zr ρ h.length i)) H.size) hcw ⟨z_blind, ?_, fun U hU hW => ⟨rfl, by rw [hU], by rw [hU]; exact hPc, va_K.moved hW.alike o8, hDc, zNst.warm hW o10⟩⟩ rfl (by rw [List.length_map]; exact hnA) hL.1 ?_ (lv_room (by rw [z_cat]; exact hrs)) d hf
  · have := va_recv o8 hPc hq (zw_at a0 hrec)
    rw [hq1] at this
    exact this
  · show List.map (zv ad) _ = _
    rw [List.map_append, z_stk ad (zr ρ h.length) As]
    rfl
set_option maxHeartbeats 1000000 in
theorem zi_callS (O : zOK own cc nL ret rm p R s m args meth c D dA A) {index np : Nat} {y : MethodName} {cc' : ByteArray} {nL' : Nat} {ret' : Option FieldType} {rm' : Room} {As : List Value} {hC : List zE} {Q' : Option Value → List zE → Prop} {rest : List Value} (ρ : List Nat)
    (C : zCS own index y np) (cm : Cond.code y cc' nL' ret' ∈ zt) (hM : zMet y cc' nL' ret' rm' As hC Q') (d : decode cc pc = .ok (.invokestatic index, 3)) (hR : rm'.frames + 1 ≤ rm.frames ∧ 8 + (nL' + 11) + rm'.locals ≤ rm.locals) (hf : k + rm'.cells ≤ rm.cells ∧ n + rm'.slots ≤ rm.slots) (hnA : As.length = np) (hrs : (rest.map fun v => v.category).sum ≤ 8)
    (hnd : va_nd ρ = true) (hh : ρ.map (fun i => h[i]?) = hC.map (fun x => some (zc (zr ρ h.length) x))) (hok : h.all (zok h.length) = true) (hls : ls.all (zlok h.length) = true) (hst : rest.all (zvok h.length) = true) (hn0 : n0 ≤ h.length) (hstk : st = (As.map (zv (zr ρ h.length))).reverse ++ rest)
    (K : ∀ (r : Option Value) (h' : List zE), Q' r h' → hC.length ≤ h'.length → zG p l e R s m args below meth c D dA A ad0 n0 nL Q mc ms (k + rm'.cells) (n + rm'.slots) (pc + 3) ls ((r.map (zv (zr ρ h.length))).toList ++ rest) (zput ρ h h')) : zG p l e R s m args below meth c D dA A ad0 n0 nL Q mc ms k n pc ls st h := by
  obtain ⟨rfl, o1, o2, o3, o4, o5, o6, o7, o8, o9, o10⟩ := O
  obtain ⟨⟨c1, c2, c3, c4⟩, c5, c6⟩ := C
  subst hstk
  refine zi_after o9 hnd hh hok hls hst hn0 (a := fun ad => (As.map (zv (fun i => ad (zr ρ h.length i)))).toArray) ?_ K
  intro ad H locs L hL h3 hPc hDc
  have hcw : CallB R s args own index y cc' nL' ret' (.code y cc' nL' ret' :: zt) rm' rm'.cells rm'.slots np := callB_of np o5 (zt_goodIn cm) rfl rfl rfl (o5 _ c1) (o5 _ c5) ⟨c2, c3, c4⟩ hR
  refine va_runS (As := As.map (zv (fun i => ad (zr ρ h.length i)))) ⟨o1, o2, o3, o4, o5⟩ (hM l D dA (fun i => ad (zr ρ h.length i)) H.size) ⟨hcw, o5 _ c6⟩ ⟨z_blind, fun U hU hW => ⟨rfl, by rw [hU], by rw [hU]; exact hPc, va_K.moved hW.alike o8, hDc, zNst.warm hW o10⟩⟩ rfl (by rw [List.length_map]; exact hnA) hL.1 ?_ (lv_room (by rw [z_cat]; exact hrs)) d hf
  show List.map (zv ad) _ = _
  rw [List.map_append, z_stk ad (zr ρ h.length) As]
set_option maxHeartbeats 1000000 in
theorem zi_callI (O : zOK own cc nL ret rm p R s m args meth c D dA A) {index np : Nat} {y : MethodName} {cc' : ByteArray} {nL' : Nat} {rm' : Room} {a0 : Nat} {As : List Value} {hC : List zE} {Q' : Option Value → List zE → Prop} {rest : List Value} (ρ : List Nat)
    (C : zCI own index y np) (cm : Cond.code y cc' nL' none ∈ zt) (hM : zMet y cc' nL' none rm' (.ref a0 :: As) hC Q') (d : decode cc pc = .ok (.invokespecial index, 3)) (hR : rm'.frames + 1 ≤ rm.frames ∧ 8 + (nL' + 11) + rm'.locals ≤ rm.locals) (hf : k + rm'.cells ≤ rm.cells ∧ n + rm'.slots ≤ rm.slots) (hnA : As.length = np) (hrs : (rest.map fun v => v.category).sum ≤ 8)
    (hnd : va_nd ρ = true) (hh : ρ.map (fun i => h[i]?) = hC.map (fun x => some (zc (zr ρ h.length) x))) (hok : h.all (zok h.length) = true) (hls : ls.all (zlok h.length) = true) (hst : rest.all (zvok h.length) = true) (hn0 : n0 ≤ h.length) (hstk : st = (As.map (zv (zr ρ h.length))).reverse ++ .ref (zr ρ h.length a0) :: rest)
    (K : ∀ (r : Option Value) (h' : List zE), Q' r h' → hC.length ≤ h'.length → zG p l e R s m args below meth c D dA A ad0 n0 nL Q mc ms (k + rm'.cells) (n + rm'.slots) (pc + 3) ls ((r.map (zv (zr ρ h.length))).toList ++ rest) (zput ρ h h')) : zG p l e R s m args below meth c D dA A ad0 n0 nL Q mc ms k n pc ls st h := by
  obtain ⟨rfl, o1, o2, o3, o4, o5, o6, o7, o8, o9, o10⟩ := O
  obtain ⟨⟨c1, c2, c3, c4⟩, c5, c6, c7⟩ := C
  subst hstk
  refine zi_after o9 hnd hh hok hls hst hn0 (a := fun ad => (Value.ref (ad (zr ρ h.length a0)) :: As.map (zv (fun i => ad (zr ρ h.length i)))).toArray) ?_ K
  intro ad H locs L hL h3 hPc hDc
  rcases c5 with c5 | ⟨host, c5⟩
  · have hcw : CallB R s args own index y cc' nL' none (.code y cc' nL' none :: zt) rm' rm'.cells rm'.slots np := callB_of np o5 (zt_goodIn cm) rfl rfl rfl (o5 _ c1) (o5 _ c5) ⟨c2, c3, c4⟩ hR
    refine va_runI (As := As.map (zv (fun i => ad (zr ρ h.length i)))) (b := ad (zr ρ h.length a0)) ⟨o1, o2, o3, o4, o5⟩ (hM l D dA (fun i => ad (zr ρ h.length i)) H.size) ⟨hcw, c7, o5 _ c6⟩ ⟨z_blind, fun U hU hW => ⟨rfl, by rw [hU], by rw [hU]; exact hPc, va_K.moved hW.alike o8, hDc, zNst.warm hW o10⟩⟩ rfl (by rw [List.length_map]; exact hnA) hL.1 ?_ (lv_room (by rw [z_cat]; exact hrs)) d hf
    show List.map (zv ad) _ = _
    rw [List.map_append, z_stk ad (zr ρ h.length) As]
    rfl
  · have hcw : va_CN R s args own index y host cc' nL' none (.code y cc' nL' none :: zt) rm' rm'.cells rm'.slots np := va_cnB np o5 (zt_goodIn cm) rfl rfl rfl (o10 _ c5) (o5 _ c1) ⟨c2, c3, c4⟩ hR
    refine va_runIN (As := As.map (zv (fun i => ad (zr ρ h.length i)))) (b := ad (zr ρ h.length a0)) ⟨o1, o2, o3, o4, o5⟩ (hM l D dA (fun i => ad (zr ρ h.length i)) H.size) ⟨hcw, c7, o5 _ c6⟩ ⟨z_blind, fun U hU hW => ⟨rfl, by rw [hU], by rw [hU]; exact hPc, va_K.moved hW.alike o8, hDc, zNst.warm hW o10⟩⟩ rfl (by rw [List.length_map]; exact hnA) hL.1 ?_ (lv_room (by rw [z_cat]; exact hrs)) d hf
    show List.map (zv ad) _ = _
    rw [List.map_append, z_stk ad (zr ρ h.length) As]
    rfl
end ZC
