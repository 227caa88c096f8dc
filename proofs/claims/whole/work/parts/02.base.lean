/-! MY LAYER OVER THE KIT: a method's world is a LIST of cells, a reference in it is a PLACE in that list. -/
abbrev zE : Type := (Nat × vp_A) ⊕ (Nat × List Value)
def zv (f : Nat → Nat) : Value → Value
  | .ref k => .ref (f k)
  | v => v
def zA (f : Nat → Nat) (a : vp_A) : vp_A := (a.1, match a.2 with
  | .inr (.inr (.inr (.inr g))) => .inr (.inr (.inr (.inr (fun j => (g j).map f))))
  | x => x)
def zc (f : Nat → Nat) : zE → zE
  | .inl (t, a) => .inl (t, zA f a)
  | .inr (ci, fs) => .inr (ci, fs.map (zv f))
def zD (dA : Nat → ClassId) : zE → va_E
  | .inl (t, a) => .inl (dA t, a)
  | .inr o => .inr o
def zw (dA : Nat → ClassId) (ad : Nat → Nat) (h : List zE) : va_W := h.mapIdx (fun k e => (ad k, zD dA (zc ad e)))
/-- places in range -/
def zvok (N : Nat) : Value → Bool
  | .ref k => decide (k < N)
  | _ => true
def zok (N : Nat) : zE → Bool
  | .inr (_, fs) => fs.all (zvok N)
  | .inl (_, _, .inr (.inr (.inr (.inr _)))) => false
  | _ => true
def zlok (N : Nat) : Option Value → Bool
  | some v => zvok N v
  | none => true
/-- of one slot -/
def zc1 : Option Value → Bool
  | some (.long _) => false
  | some (.double _) => false
  | _ => true
theorem zv_comp (f g : Nat → Nat) (v : Value) : zv f (zv g v) = zv (fun i => f (g i)) v := by cases v <;> rfl
theorem zv_eq {f g : Nat → Nat} {N : Nat} (h : ∀ i, i < N → f i = g i) {v : Value} (hv : zvok N v = true) : zv f v = zv g v := by
  cases v with
  | ref k => simp only [zvok, decide_eq_true_eq] at hv; simp only [zv, h k hv]
  | _ => rfl
theorem zv_cat (f : Nat → Nat) (v : Value) : (zv f v).category = v.category := by cases v <;> rfl
theorem zA_comp (f g : Nat → Nat) (a : vp_A) : zA f (zA g a) = zA (fun i => f (g i)) a := by
  obtain ⟨n, x⟩ := a
  rcases x with x | x | x | x | x
  · rfl
  · rfl
  · rfl
  · rfl
  · simp only [zA, Option.map_map]; rfl
theorem zc_comp (f g : Nat → Nat) (e : zE) : zc f (zc g e) = zc (fun i => f (g i)) e := by
  rcases e with ⟨t, a⟩ | ⟨ci, fs⟩
  · simp only [zc, zA_comp]
  · simp only [zc, List.map_map]
    congr 2
    apply List.map_congr_left
    intro v _
    exact zv_comp f g v
theorem zc_eq {f g : Nat → Nat} {N : Nat} (h : ∀ i, i < N → f i = g i) {e : zE} (he : zok N e = true) : zc f e = zc g e := by
  rcases e with ⟨t, n, x⟩ | ⟨ci, fs⟩
  · rcases x with x | x | x | x | x
    · rfl
    · rfl
    · rfl
    · rfl
    · cases he
  · simp only [zc]
    congr 2
    apply List.map_congr_left
    intro v hv
    exact zv_eq h (List.all_eq_true.mp he v hv)
theorem zw_at {dA : Nat → ClassId} {ad : Nat → Nat} {h : List zE} (k : Nat) {e : zE} (h1 : h[k]? = some e) : (zw dA ad h)[k]? = some (ad k, zD dA (zc ad e)) := by
  rw [zw, List.getElem?_mapIdx, h1]; rfl
theorem zw_inv {dA : Nat → ClassId} {ad : Nat → Nat} {h : List zE} {k : Nat} {q : Nat × va_E} (h1 : (zw dA ad h)[k]? = some q) : ∃ e, h[k]? = some e ∧ q = (ad k, zD dA (zc ad e)) := by
  rw [zw, List.getElem?_mapIdx] at h1
  cases h2 : h[k]? with
  | none => rw [h2] at h1; cases h1
  | some e => rw [h2] at h1; exact ⟨e, rfl, (Option.some.inj h1).symm⟩
theorem zw_set {dA : Nat → ClassId} {ad : Nat → Nat} {h : List zE} (k : Nat) (e : zE) : zw dA ad (h.set k e) = (zw dA ad h).set k (ad k, zD dA (zc ad e)) := by
  apply List.ext_getElem?
  intro i
  rw [zw, List.getElem?_mapIdx]
  by_cases hi : i = k
  · subst hi
    by_cases hl : i < h.length
    · rw [List.getElem?_set_self hl, List.getElem?_set_self (by simpa [zw] using hl)]; rfl
    · rw [List.getElem?_eq_none (by simpa using hl), List.getElem?_eq_none (by simpa [zw] using hl)]; rfl
  · rw [List.getElem?_set_ne (Ne.symm hi), List.getElem?_set_ne (Ne.symm hi), zw, List.getElem?_mapIdx]
theorem zw_ext {dA : Nat → ClassId} {f g : Nat → Nat} {h : List zE} {N : Nat} (hN : h.length ≤ N) (hfg : ∀ i, i < N → f i = g i) (hok : h.all (zok N) = true) : zw dA f h = zw dA g h := by
  apply List.ext_getElem?
  intro i
  rw [zw, zw, List.getElem?_mapIdx, List.getElem?_mapIdx]
  cases hi : h[i]? with
  | none => rfl
  | some e =>
    have hl : i < h.length := (List.getElem?_eq_some_iff.mp hi).1
    show some (f i, zD dA (zc f e)) = some (g i, zD dA (zc g e))
    rw [hfg i (by omega), zc_eq hfg (List.all_eq_true.mp hok e (List.mem_of_getElem? hi))]
theorem zw_take {dA : Nat → ClassId} {ad : Nat → Nat} {h : List zE} (j : Nat) : zw dA ad (h.take j) = (zw dA ad h).take j := by
  apply List.ext_getElem?
  intro i
  rw [zw, List.getElem?_mapIdx, List.getElem?_take, List.getElem?_take, zw, List.getElem?_mapIdx]
  by_cases hi : i < j
  · rw [if_pos hi, if_pos hi]
  · rw [if_neg hi, if_neg hi]; rfl
theorem zw_push {dA : Nat → ClassId} {ad : Nat → Nat} {h : List zE} (e : zE) : zw dA ad (h ++ [e]) = zw dA ad h ++ [(ad h.length, zD dA (zc ad e))] := by
  rw [zw, List.mapIdx_append]; simp [zw]
/-! locals by place -/
def zl (ad : Nat → Nat) (ls : List (Option Value)) : List (Nat × Value) := (ls.mapIdx (fun i o => o.map (fun v => (i, zv ad v)))).filterMap id
theorem zl_mem {ad : Nat → Nat} {ls : List (Option Value)} {q : Nat × Value} : q ∈ zl ad ls ↔ ∃ v, ls[q.1]? = some (some v) ∧ q.2 = zv ad v := by
  rw [zl, List.mem_filterMap]
  constructor
  · rintro ⟨o, ho, h2⟩
    obtain ⟨i, hi⟩ := List.getElem?_of_mem ho
    rw [List.getElem?_mapIdx] at hi
    cases hx : ls[i]? with
    | none => rw [hx] at hi; cases hi
    | some x =>
      rw [hx] at hi
      cases x with
      | none => cases hi; cases h2
      | some v => cases hi; cases h2; exact ⟨v, hx, rfl⟩
  · rintro ⟨v, h1, h2⟩
    refine ⟨some q, ?_, rfl⟩
    refine List.mem_of_getElem? (i := q.1) ?_
    rw [List.getElem?_mapIdx, h1]
    show some (some (q.1, zv ad v)) = some (some q)
    rw [← h2]
theorem zl_has {L : Array Slot} {nL : Nat} {ad : Nat → Nat} {ls : List (Option Value)} (h : lv_has L nL (zl ad ls)) {i : Nat} {v : Value} (hi : ls[i]? = some (some v)) : L[i]? = some (.val (zv ad v)) := h.2.2 (i, zv ad v) (zl_mem.mpr ⟨v, hi, rfl⟩)
theorem zl_set {L : Array Slot} {nL : Nat} {ad : Nat → Nat} {ls : List (Option Value)} {i : Nat} {v : Value} (hc : ls.all zc1 = true)
    (h : lv_has L nL ((i, zv ad v) :: (zl ad ls).filter (fun q => !(q.1 == i) && !(q.1 + 1 == i && q.2.category == 2)))) : lv_has L nL (zl ad (ls.set i (some v))) := by
  refine ⟨h.1, h.2.1, fun q hq => ?_⟩
  obtain ⟨w, h1, h2⟩ := zl_mem.mp hq
  refine h.2.2 q ?_
  by_cases hi : q.1 = i
  · have hl : i < ls.length := by
      have := (List.getElem?_eq_some_iff.mp h1).1
      rw [List.length_set] at this
      omega
    rw [hi, List.getElem?_set_self hl] at h1
    cases h1
    obtain ⟨a, b⟩ := q
    dsimp only at hi h2
    subst hi; subst h2
    exact List.mem_cons_self
  · rw [List.getElem?_set_ne (Ne.symm hi)] at h1
    refine List.mem_cons_of_mem _ (List.mem_filter.mpr ⟨zl_mem.mpr ⟨w, h1, h2⟩, ?_⟩)
    have h3 := List.all_eq_true.mp hc (some w) (List.mem_of_getElem? h1)
    have h4 : w.category = 1 := by cases w <;> first | rfl | cases h3
    rw [h2, zv_cat, h4]
    simp [hi]
theorem zl_ext {L : Array Slot} {nL : Nat} {f g : Nat → Nat} {ls : List (Option Value)} {N : Nat} (hfg : ∀ i, i < N → f i = g i) (hok : ls.all (zlok N) = true) (h : lv_has L nL (zl f ls)) : lv_has L nL (zl g ls) := by
  refine ⟨h.1, h.2.1, fun q hq => ?_⟩
  obtain ⟨w, h1, h2⟩ := zl_mem.mp hq
  refine h.2.2 q (zl_mem.mpr ⟨w, h1, ?_⟩)
  have h3 := List.all_eq_true.mp hok (some w) (List.mem_of_getElem? h1)
  rw [h2]; exact (zv_eq hfg h3).symm
theorem zs_ext {f g : Nat → Nat} {st : List Value} {N : Nat} (hfg : ∀ i, i < N → f i = g i) (hok : st.all (zvok N) = true) : st.map (zv f) = st.map (zv g) := by
  apply List.map_congr_left
  intro v hv
  exact zv_eq hfg (List.all_eq_true.mp hok v hv)
