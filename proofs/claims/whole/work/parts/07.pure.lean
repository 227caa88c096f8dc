/-! calls that leave the cells as they are; small words -/
abbrev zo (ci : Nat) (fs : List Value) : zE := Sum.inr (ci, fs)
abbrev za (n : Nat) (f : Nat → Int32) : zE := Sum.inl (0, n, Sum.inl f)
/-- a contract of a method that leaves the cells: its answer -/
abbrev zPu (y : MethodName) (cc : ByteArray) (nL : Nat) (ret : Option FieldType) (rm : Room) (av : List Value) (h : List zE) (v : Value) : Prop := zMet y cc nL ret rm av h (fun r h' => r = some v ∧ h' = h)
theorem zset_same (h : List zE) : ∀ (ρ : List Nat) (es : List zE), ρ.map (fun i => h[i]?) = es.map some → zset ρ es h = h
  | [], _, _ => by rw [zset]
  | i :: ρ, [], hh => by simp at hh
  | i :: ρ, x :: es, hh => by
    rw [List.map_cons, List.map_cons] at hh
    injection hh with h1 h2
    have : h.set i x = h := by
      apply List.ext_getElem?
      intro j
      by_cases hj : j = i
      · subst hj
        rw [List.getElem?_set_self (List.getElem?_eq_some_iff.mp h1).1, h1]
      · rw [List.getElem?_set_ne (Ne.symm hj)]
    rw [zset, this]
    exact zset_same h ρ es h2
theorem zput_same {ρ : List Nat} {h hC : List zE} (hh : ρ.map (fun i => h[i]?) = hC.map (fun x => some (zc (zr ρ h.length) x))) : zput ρ h hC = h := by
  have hlen : ρ.length = hC.length := by simpa using congrArg List.length hh
  rw [zput, zset_same h ρ _ (by rw [hh, List.map_map]; rfl), List.drop_eq_nil_of_le (by omega)]
  simp
section ZP
variable {own : String} {cc : ByteArray} {nL : Nat} {ret : Option FieldType} {rm : Room} {p : Program} {l : Launch} {e : Env} {R : Room} {s : State} {m : MethodId} {args : Array Value} {below : List Frame} {meth : Method} {c : Code} {D : va_G} {dA : Nat → ClassId} {A : Nat → Prop} {ad0 : Nat → Nat} {n0 : Nat} {Q : Option Value → List zE → Prop} {mc ms k n pc : Nat} {ls : List (Option Value)} {st : List Value} {h : List zE}
theorem zi_ls {ls' : List (Option Value)} (hl : ls = ls') (K : zG p l e R s m args below meth c D dA A ad0 n0 nL Q mc ms k n pc ls' st h) : zG p l e R s m args below meth c D dA A ad0 n0 nL Q mc ms k n pc ls st h := hl ▸ K
theorem zi_h {h' : List zE} (hl : h = h') (K : zG p l e R s m args below meth c D dA A ad0 n0 nL Q mc ms k n pc ls st h') : zG p l e R s m args below meth c D dA A ad0 n0 nL Q mc ms k n pc ls st h := hl ▸ K
theorem zi_st {st' : List Value} (hl : st = st') (K : zG p l e R s m args below meth c D dA A ad0 n0 nL Q mc ms k n pc ls st' h) : zG p l e R s m args below meth c D dA A ad0 n0 nL Q mc ms k n pc ls st h := hl ▸ K
theorem zi_pureV (O : zOK own cc nL ret rm p R s m args meth c D dA A) {index ci np : Nat} {y : MethodName} {cc' : ByteArray} {nL' : Nat} {ret' : Option FieldType} {fr lo : Nat} {a0 : Nat} {As : List Value} {hC : List zE} {v : Int32} {rest : List Value} {fs : List Value} (ρ : List Nat)
    (C : zCV own index y ci np) (cm : Cond.code y cc' nL' ret' ∈ zt) (hM : zPu y cc' nL' ret' ⟨fr, 0, 0, lo⟩ (.ref a0 :: As) hC (.int v)) (d : decode cc pc = .ok (.invokevirtual index, 3)) (hR : fr + 1 ≤ rm.frames ∧ 8 + (nL' + 11) + lo ≤ rm.locals) (hf : k ≤ rm.cells ∧ n ≤ rm.slots) (hnA : As.length = np) (hrec : hC[a0]? = some (.inr (ci, fs))) (hrs : (rest.map fun v => v.category).sum ≤ 8)
    (hnd : va_nd ρ = true) (hh : ρ.map (fun i => h[i]?) = hC.map (fun x => some (zc (zr ρ h.length) x))) (hok : h.all (zok h.length) = true) (hls : ls.all (zlok h.length) = true) (hst : rest.all (zvok h.length) = true) (hn0 : n0 ≤ h.length) (hstk : st = (As.map (zv (zr ρ h.length))).reverse ++ .ref (zr ρ h.length a0) :: rest)
    (K : zG p l e R s m args below meth c D dA A ad0 n0 nL Q mc ms k n (pc + 3) ls (.int v :: rest) h) : zG p l e R s m args below meth c D dA A ad0 n0 nL Q mc ms k n pc ls st h := by
  refine zi_callV O ρ C cm hM d hR hf hnA hrec hrs hnd hh hok hls hst hn0 hstk (fun r h' hq _ => ?_)
  obtain ⟨rfl, rfl⟩ := hq
  rw [zput_same hh]
  exact K
theorem zi_pureS (O : zOK own cc nL ret rm p R s m args meth c D dA A) {index np : Nat} {y : MethodName} {cc' : ByteArray} {nL' : Nat} {ret' : Option FieldType} {fr lo : Nat} {As : List Value} {hC : List zE} {v : Int32} {rest : List Value} (ρ : List Nat)
    (C : zCS own index y np) (cm : Cond.code y cc' nL' ret' ∈ zt) (hM : zPu y cc' nL' ret' ⟨fr, 0, 0, lo⟩ As hC (.int v)) (d : decode cc pc = .ok (.invokestatic index, 3)) (hR : fr + 1 ≤ rm.frames ∧ 8 + (nL' + 11) + lo ≤ rm.locals) (hf : k ≤ rm.cells ∧ n ≤ rm.slots) (hnA : As.length = np) (hrs : (rest.map fun v => v.category).sum ≤ 8)
    (hnd : va_nd ρ = true) (hh : ρ.map (fun i => h[i]?) = hC.map (fun x => some (zc (zr ρ h.length) x))) (hok : h.all (zok h.length) = true) (hls : ls.all (zlok h.length) = true) (hst : rest.all (zvok h.length) = true) (hn0 : n0 ≤ h.length) (hstk : st = (As.map (zv (zr ρ h.length))).reverse ++ rest)
    (K : zG p l e R s m args below meth c D dA A ad0 n0 nL Q mc ms k n (pc + 3) ls (.int v :: rest) h) : zG p l e R s m args below meth c D dA A ad0 n0 nL Q mc ms k n pc ls st h := by
  refine zi_callS O ρ C cm hM d hR hf hnA hrs hnd hh hok hls hst hn0 hstk (fun r h' hq _ => ?_)
  obtain ⟨rfl, rfl⟩ := hq
  rw [zput_same hh]
  exact K
theorem zi_iincD (O : zOK own cc nL ret rm p R s m args meth c D dA A) {i : Nat} {z : Int} {a : Nat} {ls' : List (Option Value)} (d : decode cc pc = .ok (.iinc i z, 3)) (hc : ls.all zc1 = true) (hn : i < nL) (hx : ls[i]? = some (some (.int (nI a)))) (hz : Int32.ofInt z = -1) (ha : 0 < a) (hs : ls.set i (some (.int (nI (a - 1)))) = ls') (K : zG p l e R s m args below meth c D dA A ad0 n0 nL Q mc ms k n (pc + 3) ls' st h) : zG p l e R s m args below meth c D dA A ad0 n0 nL Q mc ms k n pc ls st h := zi_iinc O d hc hn hx (by rw [hz]; exact sb_m1 ha) hs K
theorem zi_no (i : Nat) {ls' : List (Option Value)} (hs : ls.set i none = ls') (K : zG p l e R s m args below meth c D dA A ad0 n0 nL Q mc ms k n pc ls' st h) : zG p l e R s m args below meth c D dA A ad0 n0 nL Q mc ms k n pc ls st h := by
  subst hs
  intro ad H locs L h1 h2 h3 h4 h5
  refine K ad H locs L h1 ⟨h2.1, h2.2.1, fun q hq => ?_⟩ h3 h4 h5
  obtain ⟨w, a1, a2⟩ := zl_mem.mp hq
  refine h2.2.2 q (zl_mem.mpr ⟨w, ?_, a2⟩)
  by_cases hi : q.1 = i
  · rw [hi] at a1
    by_cases hl : i < ls.length
    · rw [List.getElem?_set_self hl] at a1; cases a1
    · rw [List.getElem?_eq_none (by rw [List.length_set]; omega)] at a1; cases a1
  · rw [List.getElem?_set_ne (Ne.symm hi)] at a1; exact a1
theorem zi_arr (q : Nat) {N : Nat} {f : Nat → Int32} (g : Nat → Int32) {h' : List zE} (he : h[q]? = some (.inl (0, N, .inl f))) (hfg : ∀ j, j < N → f j = g j) (hh : h.set q (.inl (0, N, .inl g)) = h') (K : zG p l e R s m args below meth c D dA A ad0 n0 nL Q mc ms k n pc ls st h') : zG p l e R s m args below meth c D dA A ad0 n0 nL Q mc ms k n pc ls st h := by
  subst hh
  intro ad H locs L h1 h2 h3 h4 h5
  have e1 := zw_at (dA := dA) (ad := ad) q he
  refine K ad H locs L h1 h2 ?_ ?_ h5
  · rw [zw_set]
    refine h3.set h4 e1 ?_ (fun _ _ => rfl)
    have h6 := h3 q _ e1
    show H[ad q]? = some (vp_cell (dA 0) (N, .inl g))
    have h7 : H[ad q]? = some (vp_cell (dA 0) (N, .inl f)) := h6
    rw [h7]
    congr 1
    rw [vp_cell_i, vp_cell_i, arrV, arrV]
    congr 2
    funext j
    rw [hfg j.val j.isLt]
  · rw [zw_set]
    exact h4.set e1
theorem zi_loop {σ : Type} (lf : σ → List (Option Value)) (hf : σ → List zE) (I : σ → Prop) (μ : σ → Nat) (x0 : σ) (hl : ls = lf x0) (hh : h = hf x0) (h0 : I x0) (stp : ∀ x, I x → (∀ y, I y → μ y < μ x → zG p l e R s m args below meth c D dA A ad0 n0 nL Q mc ms k n pc (lf y) st (hf y)) → zG p l e R s m args below meth c D dA A ad0 n0 nL Q mc ms k n pc (lf x) st (hf x)) : zG p l e R s m args below meth c D dA A ad0 n0 nL Q mc ms k n pc ls st h := by
  subst hl; subst hh
  have key : ∀ (t : Nat) (x : σ), μ x < t → I x → zG p l e R s m args below meth c D dA A ad0 n0 nL Q mc ms k n pc (lf x) st (hf x) := by
    intro t
    induction t with
    | zero => intro x hx; exact absurd hx (Nat.not_lt_zero _)
    | succ t ih => intro x hx hI; exact stp x hI (fun y hy hm => ih y (by omega) hy)
  exact key (μ x0 + 1) x0 (by omega) h0
theorem zi_for (lf : Nat → List (Option Value)) (hf : Nat → List zE) (i0 e0 : Nat) (hie : i0 ≤ e0) (hl : ls = lf i0) (hh : h = hf i0) (stp : ∀ i, i0 ≤ i → i < e0 → zG p l e R s m args below meth c D dA A ad0 n0 nL Q mc ms k n pc (lf (i + 1)) st (hf (i + 1)) → zG p l e R s m args below meth c D dA A ad0 n0 nL Q mc ms k n pc (lf i) st (hf i)) (ex : zG p l e R s m args below meth c D dA A ad0 n0 nL Q mc ms k n pc (lf e0) st (hf e0)) : zG p l e R s m args below meth c D dA A ad0 n0 nL Q mc ms k n pc ls st h := by
  refine zi_loop lf hf (fun i => i0 ≤ i ∧ i ≤ e0) (fun i => e0 - i) i0 hl hh ⟨Nat.le_refl _, hie⟩ ?_
  intro i hi ih
  by_cases he : i = e0
  · rw [he]; exact ex
  · exact stp i hi.1 (by omega) (ih (i + 1) ⟨by omega, by omega⟩ (by omega))
end ZP
