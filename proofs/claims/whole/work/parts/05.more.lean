/-! more instructions: making cells, division, constants, copying; and numbers as naturals -/
section ZM
variable {own : String} {cc : ByteArray} {nL : Nat} {ret : Option FieldType} {rm : Room} {p : Program} {l : Launch} {e : Env} {R : Room} {s : State} {m : MethodId} {args : Array Value} {below : List Frame} {meth : Method} {c : Code} {D : va_G} {dA : Nat → ClassId} {A : Nat → Prop} {ad0 : Nat → Nat} {n0 : Nat} {Q : Option Value → List zE → Prop} {mc ms k n pc : Nat} {ls : List (Option Value)} {st : List Value} {h : List zE}
theorem z_newcell {ad : Nat → Nat} {H1 : Heap} {q : Nat} {x : zE} (hok : h.all (zok h.length) = true) (hx : zok 0 x = true) : zw dA (fun j => if j = h.length then q else ad j) (h ++ [x]) = zw dA ad h ++ [(q, zD dA (zc ad x))] := by
  have hfg : ∀ i, i < h.length → (fun j => if j = h.length then q else ad j) i = ad i := fun i hi => by
    show (if i = h.length then q else ad i) = ad i
    rw [if_neg (by omega)]
  rw [zw_push, zw_ext (Nat.le_refl _) hfg hok, zc_eq (f := fun j => if j = h.length then q else ad j) (g := ad) (N := 0) (fun i hi => absurd hi (Nat.not_lt_zero i)) hx]
  show _ ++ [((if h.length = h.length then q else ad h.length), _)] = _
  rw [if_pos rfl]
theorem zi_new (O : zOK own cc nL ret rm p R s m args meth c D dA A) {index ci N : Nat} {C : String} {T : u_T} {ty : Nat → FieldType} {fs : List Value} (d : decode cc pc = .ok (.new index, 3)) (hc : vwCl[ci]? = some (C, T, N)) (hin : ∀ w ∈ u_ws C T N, w ∈ zt) (hty : ∀ k, k < N → parseFieldDescriptor (T k).2.2.1 = some (ty k)) (w1 : Cond.classLink own index C ∈ zt) (w2 : Cond.instantiable C N ∈ zt) (w3 : Cond.initialized C ∈ zt) (hfs : ∀ j, j < N → defaultValue (ty j) = vp_V fs j) (hfo : zok 0 (.inr (ci, fs)) = true) (hk : k + 1 ≤ rm.cells) (hn : n + N ≤ rm.slots)
    (hok : h.all (zok h.length) = true) (hls : ls.all (zlok h.length) = true) (hst : st.all (zvok h.length) = true) (hn0 : n0 ≤ h.length) (K : zG p l e R s m args below meth c D dA A ad0 n0 nL Q mc ms (k + 1) (n + N) (pc + 3) ls (.ref h.length :: st) (h ++ [.inr (ci, fs)])) : zG p l e R s m args below meth c D dA A ad0 n0 nL Q mc ms k n pc ls st h := by
  obtain ⟨rfl, o1, o2, o3, o4, o5, o6, o7, o8, o9, o10⟩ := O
  intro ad H locs L h1 h2 h3 h4 h5
  refine va_new (ci := ci) (fs := fs) (C := C) (T := T) (N := N) o1 o2 o5 hin ty hty o4 (o5 _ w1) (o5 _ w2) (o5 _ w3) o8 h3 h4 h5 o9 hc hfs hk hn d (fun q H1 hP hD hS => ?_)
  have hfg : ∀ i, i < h.length → ad i = (fun j => if j = h.length then q else ad j) i := fun i hi => by
    show ad i = (if i = h.length then q else ad i)
    rw [if_neg (by omega)]
  have he : zD dA (zc ad (.inr (ci, fs))) = .inr (ci, fs) := by
    have : fs.map (zv ad) = fs := by
      conv => rhs; rw [← List.map_id fs]
      apply List.map_congr_left
      intro v hv
      have h6 := List.all_eq_true.mp hfo v hv
      cases v with
      | ref a => simp [zvok] at h6
      | _ => rfl
    show Sum.inr (ci, fs.map (zv ad)) = _
    rw [this]
  have hw := z_newcell (dA := dA) (ad := ad) (H1 := H1) (q := q) hok hfo
  rw [he] at hw
  have := K (fun j => if j = h.length then q else ad j) H1 locs L (fun i hi => (hfg i (by omega)).symm.trans (h1 i hi)) (zl_ext hfg hls h2) (by rw [hw]; exact hP) (by rw [hw]; exact hD) hS
  rw [List.map_cons, ← zs_ext hfg hst] at this
  rw [show zv (fun j => if j = h.length then q else ad j) (.ref h.length) = .ref q by show Value.ref (if h.length = h.length then q else _) = _; rw [if_pos rfl]] at this
  exact this
theorem z_dA {D : va_G} {cA : ClassId} (h1 : va_K D vwCl (ztys dA) s) (h2 : va_K D vwCl (ztys dA ++ [(cA, .int)]) s) : cA = dA 0 := by
  have a := (h1.2 0 _ rfl).2
  have b := (h2.2 1 _ rfl).2
  exact Option.some.inj (b.symm.trans a)
theorem zi_newa (O : zOK own cc nL ret rm p R s m args meth c D dA A) {x : Int32} {N : Nat} (d : decode cc pc = .ok (.newarray .int, 2)) (w1 : Cond.arrayClass .int ∈ zt) (hx : x = nI N) (hN : N ≤ 1000) (hk : k + 1 ≤ rm.cells) (hn : n + N ≤ rm.slots)
    (hok : h.all (zok h.length) = true) (hls : ls.all (zlok h.length) = true) (hst : st.all (zvok h.length) = true) (hn0 : n0 ≤ h.length) (K : zG p l e R s m args below meth c D dA A ad0 n0 nL Q mc ms (k + 1) (n + N) (pc + 2) ls (.ref h.length :: st) (h ++ [.inl (0, N, .inl (fun _ => 0))])) : zG p l e R s m args below meth c D dA A ad0 n0 nL Q mc ms k n pc ls (.int x :: st) h := by
  obtain ⟨rfl, o1, o2, o3, o4, o5, o6, o7, o8, o9, o10⟩ := O
  subst hx
  intro ad H locs L h1 h2 h3 h4 h5
  refine va_newa (atype := .int) (ty := .int) (a0 := (N, .inl (fun _ => 0))) (N' := N) o1 o2 (o5 _ w1) rfl o8 h3 h4 h5 o9 (fun cA => rfl) (nI_pos (by omega)) (nI_clamp (by omega)) (by show N * 4 ≤ _; omega) hk hn d (fun q cA H1 hK hP hD hS => ?_)
  have hcA := z_dA o8 hK
  subst hcA
  have hfg : ∀ i, i < h.length → ad i = (fun j => if j = h.length then q else ad j) i := fun i hi => by
    show ad i = (if i = h.length then q else ad i)
    rw [if_neg (by omega)]
  have hw := z_newcell (dA := dA) (ad := ad) (H1 := H1) (q := q) (x := .inl (0, N, .inl (fun _ => 0))) hok rfl
  have := K (fun j => if j = h.length then q else ad j) H1 locs L (fun i hi => (hfg i (by omega)).symm.trans (h1 i hi)) (zl_ext hfg hls h2) (by rw [hw]; exact hP) (by rw [hw]; exact hD) hS
  rw [List.map_cons, ← zs_ext hfg hst] at this
  rw [show zv (fun j => if j = h.length then q else ad j) (.ref h.length) = .ref q by show Value.ref (if h.length = h.length then q else _) = _; rw [if_pos rfl]] at this
  exact this
theorem zi_objInit (O : zOK own cc nL ret rm p R s m args meth c D dA A) {idx a : Nat} (d : decode cc pc = .ok (.invokespecial idx, 3)) (w1 : Cond.methodLink own idx objectInit ∈ zt) (w2 : Cond.instanceMethod objectInit ∈ zt) (w3 : Cond.code objectInit ⟨#[0xb1]⟩ 1 none ∈ zt) (hf : 1 ≤ rm.frames) (hl : (st.map fun v => v.category).sum + 12 ≤ rm.locals) (K : zG p l e R s m args below meth c D dA A ad0 n0 nL Q mc ms k n (pc + 3) ls st h) : zG p l e R s m args below meth c D dA A ad0 n0 nL Q mc ms k n pc ls (.ref a :: st) h := by
  obtain ⟨rfl, o1, o2, o3, o4, o5, o6, o7, o8, o9, o10⟩ := O
  intro ad H locs L h1 h2 h3 h4 h5
  refine W.objInit o1 o2 o4 (o5 _ w1) (o5 _ w2) (o5 _ w3) rfl (by rw [o3]; exact h2.1) rfl d hf ?_ (K ad H locs L h1 h2 h3 h4 h5)
  show 0 + _ + 12 ≤ _
  rw [z_cat, Nat.zero_add]
  exact hl
theorem zi_copy (O : zOK own cc nL ret rm p R s m args meth c D dA A) {index q1 q2 N1 N2 a1 a2 b : Nat} {f g : Nat → Int32} {x1 x2 y : Int32} {h' : List zE} (d : decode cc pc = .ok (.invokestatic index, 3)) (w1 : Cond.methodLink own index arraycopyName ∈ zt) (w2 : Cond.native arraycopyName ∈ zt) (w3 : Cond.static arraycopyName ∈ zt) (w4 : Cond.initialized "java/lang/System" ∈ zt) (he1 : h[q1]? = some (.inl (0, N1, .inl f))) (he2 : h[q2]? = some (.inl (0, N2, .inl g))) (hx1 : x1 = nI a1) (hx2 : x2 = nI a2) (hy : y = nI b) (hb1 : a1 + b ≤ N1) (hb2 : a2 + b ≤ N2) (hN1 : N1 ≤ 1000) (hN2 : N2 ≤ 1000) (hf : 1 ≤ rm.frames) (hl : (st.map fun v => v.category).sum + (nativeFrameWords "java/lang/System" "arraycopy" 5 + 11) ≤ rm.locals)
    (hh : h.set q2 (.inl (0, N2, .inl (va_cpy f g a1 a2 b))) = h') (K : zG p l e R s m args below meth c D dA A ad0 n0 nL Q mc ms k n (pc + 3) ls st h') : zG p l e R s m args below meth c D dA A ad0 n0 nL Q mc ms k n pc ls (.int y :: .int x2 :: .ref q2 :: .int x1 :: .ref q1 :: st) h := by
  obtain ⟨rfl, o1, o2, o3, o4, o5, o6, o7, o8, o9, o10⟩ := O
  subst hx1; subst hx2; subst hy; subst hh
  intro ad H locs L h1 h2 h3 h4 h5
  have e1 : (nI a1).toNatClampNeg = a1 := nI_clamp (by omega)
  have e2 : (nI a2).toNatClampNeg = a2 := nI_clamp (by omega)
  have e3 : (nI b).toNatClampNeg = b := nI_clamp (by omega)
  refine va_copyi (rest := st.map (zv ad)) o1 o2 (by rw [o3]; exact h2.1.symm) o4 (o5 _ w1) (o5 _ w2) (o5 _ w3) (o5 _ w4) o8 h3 h4 h5 q1 q2 0 0 (zw_at q1 he1) (zw_at q2 he2) rfl rfl rfl (nI_pos (by omega)) (nI_pos (by omega)) (nI_pos (by omega)) (by rw [e1, e3]; exact hb1) (by rw [e2, e3]; exact hb2) (fun i _ => rfl) hf (by rw [z_cat]; exact hl) d ?_
  rw [e1, e2, e3]
  exact fun H1 locs1 a1 a2 a3 => K ad H1 locs1 L h1 h2 (by rw [zw_set]; exact a1) (by rw [zw_set]; exact a2) a3
theorem zi_iconstN (O : zOK own cc nL ret rm p R s m args meth c D dA A) {x : Int} (v : Nat) (d : decode cc pc = .ok (.iconst x, 1)) (hv : Int32.ofInt x = nI v) (K : zG p l e R s m args below meth c D dA A ad0 n0 nL Q mc ms k n (pc + 1) ls (.int (nI v) :: st) h) : zG p l e R s m args below meth c D dA A ad0 n0 nL Q mc ms k n pc ls st h := zi_iconst O d hv K
theorem zi_bipushN (O : zOK own cc nL ret rm p R s m args meth c D dA A) {x : Int} (v : Nat) (d : decode cc pc = .ok (.bipush x, 2)) (hv : (Int8.ofInt x).toInt32 = nI v) (K : zG p l e R s m args below meth c D dA A ad0 n0 nL Q mc ms k n (pc + 2) ls (.int (nI v) :: st) h) : zG p l e R s m args below meth c D dA A ad0 n0 nL Q mc ms k n pc ls st h := zi_bipush O d hv K
theorem zi_sipushN (O : zOK own cc nL ret rm p R s m args meth c D dA A) {x : Int} (v : Nat) (d : decode cc pc = .ok (.sipush x, 3)) (hv : (Int16.ofInt x).toInt32 = nI v) (K : zG p l e R s m args below meth c D dA A ad0 n0 nL Q mc ms k n (pc + 3) ls (.int (nI v) :: st) h) : zG p l e R s m args below meth c D dA A ad0 n0 nL Q mc ms k n pc ls st h := zi_sipush O d hv K
theorem zi_iaddN (O : zOK own cc nL ret rm p R s m args meth c D dA A) {a b : Nat} (d : decode cc pc = .ok (.iadd, 1)) (K : zG p l e R s m args below meth c D dA A ad0 n0 nL Q mc ms k n (pc + 1) ls (.int (nI (a + b)) :: st) h) : zG p l e R s m args below meth c D dA A ad0 n0 nL Q mc ms k n pc ls (.int (nI b) :: .int (nI a) :: st) h := zi_iadd O d (zi_top (nI_add a b) K)
theorem zi_isubN (O : zOK own cc nL ret rm p R s m args meth c D dA A) {a b : Nat} (d : decode cc pc = .ok (.isub, 1)) (hb : b ≤ a) (K : zG p l e R s m args below meth c D dA A ad0 n0 nL Q mc ms k n (pc + 1) ls (.int (nI (a - b)) :: st) h) : zG p l e R s m args below meth c D dA A ad0 n0 nL Q mc ms k n pc ls (.int (nI b) :: .int (nI a) :: st) h := zi_isub O d (zi_top (pk_sub hb) K)
theorem zi_imulN (O : zOK own cc nL ret rm p R s m args meth c D dA A) {a b : Nat} (d : decode cc pc = .ok (.imul, 1)) (K : zG p l e R s m args below meth c D dA A ad0 n0 nL Q mc ms k n (pc + 1) ls (.int (nI (a * b)) :: st) h) : zG p l e R s m args below meth c D dA A ad0 n0 nL Q mc ms k n pc ls (.int (nI b) :: .int (nI a) :: st) h := zi_imul O d (zi_top (pk_mul a b) K)
theorem zi_idivN (O : zOK own cc nL ret rm p R s m args meth c D dA A) {a b : Nat} (d : decode cc pc = .ok (.idiv, 1)) (ha : a < 2 ^ 31) (hb : 0 < b) (hb2 : b < 2 ^ 31) (K : zG p l e R s m args below meth c D dA A ad0 n0 nL Q mc ms k n (pc + 1) ls (.int (nI (a / b)) :: st) h) : zG p l e R s m args below meth c D dA A ad0 n0 nL Q mc ms k n pc ls (.int (nI b) :: .int (nI a) :: st) h :=
  fun ad H locs L h1 h2 h3 h4 h5 => lv_idiv O.2.1 O.2.2.1 d (nI_ne0 hb hb2) (by rw [pk_div ha hb hb2]; exact K ad H locs L h1 h2 h3 h4 h5)
theorem zi_iremN (O : zOK own cc nL ret rm p R s m args meth c D dA A) {a b : Nat} (d : decode cc pc = .ok (.irem, 1)) (ha : a < 2 ^ 31) (hb : 0 < b) (hb2 : b < 2 ^ 31) (K : zG p l e R s m args below meth c D dA A ad0 n0 nL Q mc ms k n (pc + 1) ls (.int (nI (a % b)) :: st) h) : zG p l e R s m args below meth c D dA A ad0 n0 nL Q mc ms k n pc ls (.int (nI b) :: .int (nI a) :: st) h :=
  fun ad H locs L h1 h2 h3 h4 h5 => lv_irem O.2.1 O.2.2.1 d (nI_ne0 hb hb2) (by rw [pk_rem ha hb hb2]; exact K ad H locs L h1 h2 h3 h4 h5)
theorem zi_ishrN (O : zOK own cc nL ret rm p R s m args meth c D dA A) {a : Nat} (v w : Nat) (d : decode cc pc = .ok (.ishr, 1)) (hv : ((nI v &&& 31).toBitVec.smod 32).toNat = w) (ha : a < 2 ^ 31) (K : zG p l e R s m args below meth c D dA A ad0 n0 nL Q mc ms k n (pc + 1) ls (.int (nI (a / 2 ^ w)) :: st) h) : zG p l e R s m args below meth c D dA A ad0 n0 nL Q mc ms k n pc ls (.int (nI v) :: .int (nI a) :: st) h := zi_ishr O d (zi_top (pk_shrN ha _ w hv) K)
theorem zi_iandN (O : zOK own cc nL ret rm p R s m args meth c D dA A) {a : Nat} (v w : Nat) (d : decode cc pc = .ok (.iand, 1)) (hv : (nI v).toBitVec.toNat = 2 ^ w - 1) (ha : a < 2 ^ 32) (K : zG p l e R s m args below meth c D dA A ad0 n0 nL Q mc ms k n (pc + 1) ls (.int (nI (a % 2 ^ w)) :: st) h) : zG p l e R s m args below meth c D dA A ad0 n0 nL Q mc ms k n pc ls (.int (nI v) :: .int (nI a) :: st) h := zi_iand O d (zi_top (pk_andN ha w hv) K)
theorem zi_icmp_eqN (O : zOK own cc nL ret rm p R s m args meth c D dA A) {a b : Nat} {off : Int} (tgt : Nat) (d : decode cc pc = .ok (.if_icmp .eq off, 3)) (ht : (pc : Int) + off = (tgt : Int)) (ha : a < 2 ^ 31) (hb : b < 2 ^ 31) (kt : a = b → zG p l e R s m args below meth c D dA A ad0 n0 nL Q mc ms k n tgt ls st h) (kf : a ≠ b → zG p l e R s m args below meth c D dA A ad0 n0 nL Q mc ms k n (pc + 3) ls st h) : zG p l e R s m args below meth c D dA A ad0 n0 nL Q mc ms k n pc ls (.int (nI b) :: .int (nI a) :: st) h := zi_icmp_eq O tgt d ht (fun z => kt ((nI_eq ha hb).mp z)) (fun z => kf (fun q => z ((nI_eq ha hb).mpr q)))
theorem zi_icmp_neN (O : zOK own cc nL ret rm p R s m args meth c D dA A) {a b : Nat} {off : Int} (tgt : Nat) (d : decode cc pc = .ok (.if_icmp .ne off, 3)) (ht : (pc : Int) + off = (tgt : Int)) (ha : a < 2 ^ 31) (hb : b < 2 ^ 31) (kt : a ≠ b → zG p l e R s m args below meth c D dA A ad0 n0 nL Q mc ms k n tgt ls st h) (kf : a = b → zG p l e R s m args below meth c D dA A ad0 n0 nL Q mc ms k n (pc + 3) ls st h) : zG p l e R s m args below meth c D dA A ad0 n0 nL Q mc ms k n pc ls (.int (nI b) :: .int (nI a) :: st) h := zi_icmp_ne O tgt d ht (fun z => kt (fun q => z ((nI_eq ha hb).mpr q))) (fun z => kf ((nI_eq ha hb).mp z))
theorem zi_icmp_ltN (O : zOK own cc nL ret rm p R s m args meth c D dA A) {a b : Nat} {off : Int} (tgt : Nat) (d : decode cc pc = .ok (.if_icmp .lt off, 3)) (ht : (pc : Int) + off = (tgt : Int)) (ha : a < 2 ^ 31) (hb : b < 2 ^ 31) (kt : a < b → zG p l e R s m args below meth c D dA A ad0 n0 nL Q mc ms k n tgt ls st h) (kf : b ≤ a → zG p l e R s m args below meth c D dA A ad0 n0 nL Q mc ms k n (pc + 3) ls st h) : zG p l e R s m args below meth c D dA A ad0 n0 nL Q mc ms k n pc ls (.int (nI b) :: .int (nI a) :: st) h := zi_icmp_lt O tgt d ht (fun z => kt ((nI_ltI ha hb).mp z)) (fun z => kf (Nat.not_lt.mp (fun q => z ((nI_ltI ha hb).mpr q))))
theorem zi_icmp_geN (O : zOK own cc nL ret rm p R s m args meth c D dA A) {a b : Nat} {off : Int} (tgt : Nat) (d : decode cc pc = .ok (.if_icmp .ge off, 3)) (ht : (pc : Int) + off = (tgt : Int)) (ha : a < 2 ^ 31) (hb : b < 2 ^ 31) (kt : b ≤ a → zG p l e R s m args below meth c D dA A ad0 n0 nL Q mc ms k n tgt ls st h) (kf : a < b → zG p l e R s m args below meth c D dA A ad0 n0 nL Q mc ms k n (pc + 3) ls st h) : zG p l e R s m args below meth c D dA A ad0 n0 nL Q mc ms k n pc ls (.int (nI b) :: .int (nI a) :: st) h := zi_icmp_ge O tgt d ht (fun z => kt ((nI_leI hb ha).mp z)) (fun z => kf (Nat.not_le.mp (fun q => z ((nI_leI hb ha).mpr q))))
theorem zi_icmp_gtN (O : zOK own cc nL ret rm p R s m args meth c D dA A) {a b : Nat} {off : Int} (tgt : Nat) (d : decode cc pc = .ok (.if_icmp .gt off, 3)) (ht : (pc : Int) + off = (tgt : Int)) (ha : a < 2 ^ 31) (hb : b < 2 ^ 31) (kt : b < a → zG p l e R s m args below meth c D dA A ad0 n0 nL Q mc ms k n tgt ls st h) (kf : a ≤ b → zG p l e R s m args below meth c D dA A ad0 n0 nL Q mc ms k n (pc + 3) ls st h) : zG p l e R s m args below meth c D dA A ad0 n0 nL Q mc ms k n pc ls (.int (nI b) :: .int (nI a) :: st) h := zi_icmp_gt O tgt d ht (fun z => kt ((nI_ltI hb ha).mp z)) (fun z => kf (Nat.not_lt.mp (fun q => z ((nI_ltI hb ha).mpr q))))
theorem zi_icmp_leN (O : zOK own cc nL ret rm p R s m args meth c D dA A) {a b : Nat} {off : Int} (tgt : Nat) (d : decode cc pc = .ok (.if_icmp .le off, 3)) (ht : (pc : Int) + off = (tgt : Int)) (ha : a < 2 ^ 31) (hb : b < 2 ^ 31) (kt : a ≤ b → zG p l e R s m args below meth c D dA A ad0 n0 nL Q mc ms k n tgt ls st h) (kf : b < a → zG p l e R s m args below meth c D dA A ad0 n0 nL Q mc ms k n (pc + 3) ls st h) : zG p l e R s m args below meth c D dA A ad0 n0 nL Q mc ms k n pc ls (.int (nI b) :: .int (nI a) :: st) h := zi_icmp_le O tgt d ht (fun z => kt ((nI_leI ha hb).mp z)) (fun z => kf (Nat.not_le.mp (fun q => z ((nI_leI ha hb).mpr q))))
theorem zi_iincN (O : zOK own cc nL ret rm p R s m args meth c D dA A) {i : Nat} {z : Int} {a : Nat} {ls' : List (Option Value)} (v : Nat) (d : decode cc pc = .ok (.iinc i z, 3)) (hc : ls.all zc1 = true) (hn : i < nL) (hx : ls[i]? = some (some (.int (nI a)))) (hz : Int32.ofInt z = nI v) (hs : ls.set i (some (.int (nI (a + v)))) = ls') (K : zG p l e R s m args below meth c D dA A ad0 n0 nL Q mc ms k n (pc + 3) ls' st h) : zG p l e R s m args below meth c D dA A ad0 n0 nL Q mc ms k n pc ls st h := zi_iinc O d hc hn hx (by rw [hz, nI_add]) hs K
theorem zi_iushr (O : zOK own cc nL ret rm p R s m args meth c D dA A) {x y : Int32} (d : decode cc pc = .ok (.iushr, 1)) (K : zG p l e R s m args below meth c D dA A ad0 n0 nL Q mc ms k n (pc + 1) ls (.int (x.toUInt32 >>> (y.toUInt32 &&& Int32.toUInt32 31)).toInt32 :: st) h) : zG p l e R s m args below meth c D dA A ad0 n0 nL Q mc ms k n pc ls (.int y :: .int x :: st) h :=
  fun ad H locs L h1 h2 h3 h4 h5 => lv_iushr O.2.1 O.2.2.1 d rfl (K ad H locs L h1 h2 h3 h4 h5)
theorem zi_ldcw (O : zOK own cc nL ret rm p R s m args meth c D dA A) {index : Nat} {v : Int32} (w : Cond.constant own index v ∈ zt) (d : decode cc pc = .ok (.ldc_w index, 3)) (K : zG p l e R s m args below meth c D dA A ad0 n0 nL Q mc ms k n (pc + 3) ls (.int v :: st) h) : zG p l e R s m args below meth c D dA A ad0 n0 nL Q mc ms k n pc ls st h :=
  fun ad H locs L h1 h2 h3 h4 h5 => lv_ldcw O.2.1 O.2.2.1 O.2.2.2.2.1 (O.2.2.2.2.2.1 _ w) d (K ad H locs L h1 h2 h3 h4 h5)
end ZM
