/-! THE JUDGEMENT zG: the method, now at pc with locals ls, stack st and cells h, comes to an end with Q -/
def ztys (dA : Nat → ClassId) : List (ClassId × FieldType) := [(dA 0, .int)]
def zOK (own : String) (cc : ByteArray) (nL : Nat) (ret : Option FieldType) (rm : Room) (p : Program) (R : Room) (s : State) (m : MethodId) (args : Array Value) (meth : Method) (c : Code) (D : va_G) (dA : Nat → ClassId) (A : Nat → Prop) : Prop :=
  R = rm ∧ p.tables.exec = Jvm.exec ∧ c.code = cc ∧ c.maxLocals = nL ∧ s.vm.findClass own = some m.cls ∧ (∀ w ∈ zt, w.before args s = true) ∧ meth.sig.returnType = ret ∧ meth.locks = false ∧ va_K D vwCl (ztys dA) s ∧ (∀ q, s.heap.size ≤ q → A q) ∧ zNst s
/-- a method's end: the answer and the cells by Q; the first n0 cells are where they were -/
def zQc (D : va_G) (dA : Nat → ClassId) (A : Nat → Prop) (ad0 : Nat → Nat) (n0 : Nat) (Q : Option Value → List zE → Prop) : Array Value → State → Outcome → State → Prop := fun _ st oc t =>
  (∃ (r : Option Value) (h' : List zE) (ad' : Nat → Nat), oc = .returned (r.map (zv ad')) ∧ Q r h' ∧ (∀ i, i < n0 → ad' i = ad0 i) ∧ n0 ≤ h'.length ∧ va_P D vwCl (zw dA ad' h') t.heap ∧ va_K D vwCl (ztys dA) t ∧ va_D A (zw dA ad' h')) ∧ va_F A st t
def zG (p : Program) (l : Launch) (e : Env) (R : Room) (s : State) (m : MethodId) (args : Array Value) (below : List Frame) (meth : Method) (c : Code) (D : va_G) (dA : Nat → ClassId) (A : Nat → Prop) (ad0 : Nat → Nat) (n0 nL : Nat) (Q : Option Value → List zE → Prop) (mc ms : Nat) (k n pc : Nat) (ls : List (Option Value)) (st : List Value) (h : List zE) : Prop :=
  ∀ (ad : Nat → Nat) (H : Heap) (locs : List Loc) (L : Array Slot), (∀ i, i < n0 → ad i = ad0 i) → lv_has L nL (zl ad ls) → va_P D vwCl (zw dA ad h) H → va_D A (zw dA ad h) → va_S A s.heap H locs →
    W p l e R s m args below meth c H locs k n (MQ below (zQc D dA A ad0 n0 Q) args s mc ms A) (F0 m pc L (st.map (zv ad)))
/-- a method's contract -/
def zMet (y : MethodName) (cc : ByteArray) (nL : Nat) (ret : Option FieldType) (rm : Room) (av : List Value) (h : List zE) (Q : Option Value → List zE → Prop) : Prop :=
  ∀ (l : Launch) (D : va_G) (dA : Nat → ClassId) (ad : Nat → Nat) (sz : Nat), Met l y (.code y cc nL ret :: zt) rm
    (va_Pc (av.map (zv ad)) (fun U => U.heap.size = sz ∧ va_P D vwCl (zw dA ad h) U.heap ∧ va_K D vwCl (ztys dA) U ∧ va_D (fun _ => True) (zw dA ad h) ∧ zNst U))
    (zQc D dA (va_A (zw dA ad h) sz) ad h.length Q) rm.cells rm.slots (va_A (zw dA ad h) sz)
theorem zMet.mono {y : MethodName} {cc : ByteArray} {nL : Nat} {ret : Option FieldType} {rm : Room} {av : List Value} {h : List zE} {Q Q' : Option Value → List zE → Prop} (H : zMet y cc nL ret rm av h Q) (hq : ∀ r h', Q r h' → Q' r h') : zMet y cc nL ret rm av h Q' := by
  intro l D dA ad sz p e a1 a2 a3 s m args below b1 b2 b3 b4
  obtain ⟨t, o, c1, c2, c3, ⟨⟨⟨r, h', ad', e1, e2, e3⟩, d2⟩, d3⟩⟩ := H l D dA ad sz p e a1 a2 a3 s m args below b1 b2 b3 b4
  exact ⟨t, o, c1, c2, c3, ⟨⟨⟨r, h', ad', e1, hq _ _ e2, e3⟩, d2⟩, d3⟩⟩
/-- the locals at a method's entry -/
def zen (av : List Value) (nL : Nat) : List (Option Value) := av.map some ++ List.replicate (nL - av.length) none
theorem zen_args (ad : Nat → Nat) : ∀ (av : List Value) (i : Nat), av.all (fun v => zc1 (some v)) = true → ∀ (j : Nat) (v : Value), av[j]? = some v → (i + j, zv ad v) ∈ lv_args i (av.map (zv ad))
  | [], _, _, j, v, h => by simp at h
  | a :: av, i, hc, j, v, h => by
    have hc1 : (zv ad a).category = 1 := by
      have := List.all_eq_true.mp hc a List.mem_cons_self
      rw [zv_cat]
      cases a <;> first | rfl | cases this
    have hc2 : av.all (fun v => zc1 (some v)) = true := by
      rw [List.all_cons, Bool.and_eq_true] at hc
      exact hc.2
    rw [List.map_cons, lv_args, hc1, if_neg (by decide)]
    cases j with
    | zero => rw [List.getElem?_cons_zero] at h; cases h; exact List.mem_cons_self
    | succ j =>
      rw [List.getElem?_cons_succ] at h
      have h2 := zen_args ad av (i + 1) hc2 j v h
      rw [show i + 1 + j = i + (j + 1) by omega] at h2
      exact List.mem_cons_of_mem _ h2
theorem zen_sl (ad : Nat → Nat) : ∀ (av : List Value), av.all (fun v => zc1 (some v)) = true → (lg_sl (av.map (zv ad))).length = av.length
  | [], _ => rfl
  | a :: av, hc => by
    have hc1 : (zv ad a).category = 1 := by
      have := List.all_eq_true.mp hc a List.mem_cons_self
      rw [zv_cat]
      cases a <;> first | rfl | cases this
    have hc2 : av.all (fun v => zc1 (some v)) = true := by
      rw [List.all_cons, Bool.and_eq_true] at hc
      exact hc.2
    have ih := zen_sl ad av hc2
    simp only [lg_sl, List.map_cons, List.flatMap_cons, List.length_append, List.length_cons] at ih ⊢
    rw [ih, hc1]
    simp
    omega
theorem z_ofW {l : Launch} {y : MethodName} {ws ws' : List Cond} {rm : Room} {Pc : Array Value → State → Prop} {Qc : Array Value → State → Outcome → State → Prop} {mc ms : Nat} {free : Addr → Prop} {cc : ByteArray} {maxL : Nat} {ret : Option FieldType}
    (hy : plainFor y = true) (hw : ws = Cond.code y cc maxL ret :: ws')
    (body : ∀ p e s m args below meth c s₁, BodyLoose p l y (headSpec ws rm) cc maxL ret e s m args below meth c s₁ → c.maxLocals = maxL → Pc args s →
      W p l e (headSpec ws rm).room s m args below meth c s.heap [] 0 0 (MQ below Qc args s mc ms free) (entryFrame m args maxL)) : Met l y ws rm Pc Qc mc ms free := by
  refine MetFree.of_bodySF (code := cc) (maxLocals := maxL) (ret := ret) hy ?_ ?_
  · intro args s m h hn
    obtain ⟨meth, c, h1, h2, h3, h4, h5, h6, -, -⟩ := Cond.code_spec hn (atoms_spec (ws := ws) h _ (by rw [hw]; exact List.mem_cons_self))
    exact ⟨meth, c, h1, h2, h3, h4, h5, h6⟩
  · intro p e s m args below meth c s₁ B hml hP _
    have hh0 : s₁.heap = s.heap := by rw [B.state]; rfl
    obtain ⟨t, a1, o, b1, b2, b3⟩ := body p e s m args below meth c s₁ B hml hP s₁ hh0 (Stand.of_body B)
    exact ⟨t, o, a1, b1, b2, ⟨b3.1, b3.2⟩⟩
set_option maxHeartbeats 1000000 in
theorem zMet_of {y : MethodName} {cc : ByteArray} {nL : Nat} {ret : Option FieldType} {rm : Room} {av : List Value} {h : List zE} {Q : Option Value → List zE → Prop} (hy : plainFor y = true) (hc : av.all (fun v => zc1 (some v)) = true) (hn : av.length ≤ nL)
    (K : ∀ (p : Program) (l : Launch) (e : Env) (R : Room) (s : State) (m : MethodId) (args : Array Value) (below : List Frame) (meth : Method) (c : Code) (D : va_G) (dA : Nat → ClassId) (A : Nat → Prop) (ad0 : Nat → Nat), zOK y.cls cc nL ret rm p R s m args meth c D dA A → meth.name = y.name →
      zG p l e R s m args below meth c D dA A ad0 h.length nL Q rm.cells rm.slots 0 0 0 (zen av nL) [] h) : zMet y cc nL ret rm av h Q := by
  intro l D dA ad sz
  refine z_ofW (cc := cc) (maxL := nL) (ret := ret) hy rfl ?_
  intro p e s m args below meth c s₁ B hml hv
  obtain ⟨rfl, hsz, hP, hK, hD0, hN⟩ := hv
  have hts := atoms_spec (ws := .code y cc nL ret :: zt) B.pre
  have hown : s.vm.findClass y.cls = some m.cls := findClass_of_methodNamed B.named
  have hin : meth.name = y.name := (name_of_methodNamed B.named B.method).1
  subst hsz
  have hD := hD0.self (sz := s.heap.size)
  have hA : ∀ q : Nat, s.heap.size ≤ q → va_A (zw dA ad h) s.heap.size q := fun q h => Or.inr h
  have hl := lv_entry (av.map (zv ad)) (n := nL) (by rw [zen_sl ad av hc]; exact hn)
  rw [lg_entry_eq]
  refine K p l e _ s m _ below meth c D dA _ ad ⟨rfl, B.exec, B.bytes, hml, hown, fun w hw => hts w (List.mem_cons_of_mem _ hw), B.returns, B.notSynchronized, hK, hA, hN⟩ hin ad s.heap [] _ (fun _ _ => rfl) ⟨hl.1, hl.2.1, fun q hq => ?_⟩ hP hD va_S.rf
  obtain ⟨w, h1, h2⟩ := zl_mem.mp hq
  refine hl.2.2 q ?_
  have h3 : av[q.1]? = some w := by
    rw [zen] at h1
    by_cases hi : q.1 < av.length
    · rw [List.getElem?_append_left (by simpa using hi), List.getElem?_map] at h1
      cases hx : av[q.1]? with
      | none => rw [hx] at h1; cases h1
      | some x => rw [hx] at h1; cases h1; rfl
    · rw [List.getElem?_append_right (by simpa using hi)] at h1
      have := List.eq_of_mem_replicate (List.mem_of_getElem? h1)
      cases this
  have h4 := zen_args ad av 0 hc q.1 w h3
  rw [Nat.zero_add, ← h2] at h4
  exact h4
/-! the instructions -/
section ZI
variable {own : String} {cc : ByteArray} {nL : Nat} {ret : Option FieldType} {rm : Room} {p : Program} {l : Launch} {e : Env} {R : Room} {s : State} {m : MethodId} {args : Array Value} {below : List Frame} {meth : Method} {c : Code} {D : va_G} {dA : Nat → ClassId} {A : Nat → Prop} {ad0 : Nat → Nat} {n0 : Nat} {Q : Option Value → List zE → Prop} {mc ms k n pc : Nat} {ls : List (Option Value)} {st : List Value} {h : List zE}
theorem zi_iconst (O : zOK own cc nL ret rm p R s m args meth c D dA A) {x : Int} {v : Int32} (d : decode cc pc = .ok (.iconst x, 1)) (hv : Int32.ofInt x = v) (K : zG p l e R s m args below meth c D dA A ad0 n0 nL Q mc ms k n (pc + 1) ls (.int v :: st) h) : zG p l e R s m args below meth c D dA A ad0 n0 nL Q mc ms k n pc ls st h :=
  fun ad H locs L h1 h2 h3 h4 h5 => lv_iconst O.2.1 O.2.2.1 d hv (K ad H locs L h1 h2 h3 h4 h5)
theorem zi_bipush (O : zOK own cc nL ret rm p R s m args meth c D dA A) {x : Int} {v : Int32} (d : decode cc pc = .ok (.bipush x, 2)) (hv : (Int8.ofInt x).toInt32 = v) (K : zG p l e R s m args below meth c D dA A ad0 n0 nL Q mc ms k n (pc + 2) ls (.int v :: st) h) : zG p l e R s m args below meth c D dA A ad0 n0 nL Q mc ms k n pc ls st h :=
  fun ad H locs L h1 h2 h3 h4 h5 => lv_bipush O.2.1 O.2.2.1 d hv (K ad H locs L h1 h2 h3 h4 h5)
theorem zi_sipush (O : zOK own cc nL ret rm p R s m args meth c D dA A) {x : Int} {v : Int32} (d : decode cc pc = .ok (.sipush x, 3)) (hv : (Int16.ofInt x).toInt32 = v) (K : zG p l e R s m args below meth c D dA A ad0 n0 nL Q mc ms k n (pc + 3) ls (.int v :: st) h) : zG p l e R s m args below meth c D dA A ad0 n0 nL Q mc ms k n pc ls st h :=
  fun ad H locs L h1 h2 h3 h4 h5 => lv_sipush O.2.1 O.2.2.1 d hv (K ad H locs L h1 h2 h3 h4 h5)
theorem zi_iload_n (O : zOK own cc nL ret rm p R s m args meth c D dA A) {i : Fin 4} {x : Int32} (d : decode cc pc = .ok (.iload_n i, 1)) (hl : ls[i.val]? = some (some (.int x))) (K : zG p l e R s m args below meth c D dA A ad0 n0 nL Q mc ms k n (pc + 1) ls (.int x :: st) h) : zG p l e R s m args below meth c D dA A ad0 n0 nL Q mc ms k n pc ls st h :=
  fun ad H locs L h1 h2 h3 h4 h5 => lv_iload_n O.2.1 O.2.2.1 d rfl (zl_has h2 hl) (K ad H locs L h1 h2 h3 h4 h5)
theorem zi_iload (O : zOK own cc nL ret rm p R s m args meth c D dA A) {i : Nat} {x : Int32} (d : decode cc pc = .ok (.iload i, 2)) (hl : ls[i]? = some (some (.int x))) (K : zG p l e R s m args below meth c D dA A ad0 n0 nL Q mc ms k n (pc + 2) ls (.int x :: st) h) : zG p l e R s m args below meth c D dA A ad0 n0 nL Q mc ms k n pc ls st h :=
  fun ad H locs L h1 h2 h3 h4 h5 => lv_iload O.2.1 O.2.2.1 d (zl_has h2 hl) (K ad H locs L h1 h2 h3 h4 h5)
theorem zi_aload_n (O : zOK own cc nL ret rm p R s m args meth c D dA A) {i : Fin 4} {x : Nat} (d : decode cc pc = .ok (.aload_n i, 1)) (hl : ls[i.val]? = some (some (.ref x))) (K : zG p l e R s m args below meth c D dA A ad0 n0 nL Q mc ms k n (pc + 1) ls (.ref x :: st) h) : zG p l e R s m args below meth c D dA A ad0 n0 nL Q mc ms k n pc ls st h :=
  fun ad H locs L h1 h2 h3 h4 h5 => lv_aload_n O.2.1 O.2.2.1 d rfl (zl_has h2 hl) (K ad H locs L h1 h2 h3 h4 h5)
theorem zi_aload (O : zOK own cc nL ret rm p R s m args meth c D dA A) {i : Nat} {x : Nat} (d : decode cc pc = .ok (.aload i, 2)) (hl : ls[i]? = some (some (.ref x))) (K : zG p l e R s m args below meth c D dA A ad0 n0 nL Q mc ms k n (pc + 2) ls (.ref x :: st) h) : zG p l e R s m args below meth c D dA A ad0 n0 nL Q mc ms k n pc ls st h :=
  fun ad H locs L h1 h2 h3 h4 h5 => lv_aload O.2.1 O.2.2.1 d (zl_has h2 hl) (K ad H locs L h1 h2 h3 h4 h5)
theorem zi_istore_n (O : zOK own cc nL ret rm p R s m args meth c D dA A) {i : Fin 4} {x : Int32} {ls' : List (Option Value)} (d : decode cc pc = .ok (.istore_n i, 1)) (hc : ls.all zc1 = true) (hn : i.val < nL) (hs : ls.set i.val (some (.int x)) = ls') (K : zG p l e R s m args below meth c D dA A ad0 n0 nL Q mc ms k n (pc + 1) ls' st h) : zG p l e R s m args below meth c D dA A ad0 n0 nL Q mc ms k n pc ls (.int x :: st) h := by
  subst hs
  exact fun ad H locs L h1 h2 h3 h4 h5 => lv_istore_n O.2.1 O.2.2.1 d rfl h2 hn rfl (fun L' h2' => K ad H locs L' h1 (zl_set (v := .int x) hc h2') h3 h4 h5)
theorem zi_istore (O : zOK own cc nL ret rm p R s m args meth c D dA A) {i : Nat} {x : Int32} {ls' : List (Option Value)} (d : decode cc pc = .ok (.istore i, 2)) (hc : ls.all zc1 = true) (hn : i < nL) (hs : ls.set i (some (.int x)) = ls') (K : zG p l e R s m args below meth c D dA A ad0 n0 nL Q mc ms k n (pc + 2) ls' st h) : zG p l e R s m args below meth c D dA A ad0 n0 nL Q mc ms k n pc ls (.int x :: st) h := by
  subst hs
  exact fun ad H locs L h1 h2 h3 h4 h5 => lv_istore O.2.1 O.2.2.1 d h2 hn rfl (fun L' h2' => K ad H locs L' h1 (zl_set (v := .int x) hc h2') h3 h4 h5)
theorem zi_astore_n (O : zOK own cc nL ret rm p R s m args meth c D dA A) {i : Fin 4} {x : Nat} {ls' : List (Option Value)} (d : decode cc pc = .ok (.astore_n i, 1)) (hc : ls.all zc1 = true) (hn : i.val < nL) (hs : ls.set i.val (some (.ref x)) = ls') (K : zG p l e R s m args below meth c D dA A ad0 n0 nL Q mc ms k n (pc + 1) ls' st h) : zG p l e R s m args below meth c D dA A ad0 n0 nL Q mc ms k n pc ls (.ref x :: st) h := by
  subst hs
  exact fun ad H locs L h1 h2 h3 h4 h5 => lv_astore_n O.2.1 O.2.2.1 d rfl h2 hn rfl (fun L' h2' => K ad H locs L' h1 (zl_set (v := .ref x) hc h2') h3 h4 h5)
theorem zi_astore (O : zOK own cc nL ret rm p R s m args meth c D dA A) {i : Nat} {x : Nat} {ls' : List (Option Value)} (d : decode cc pc = .ok (.astore i, 2)) (hc : ls.all zc1 = true) (hn : i < nL) (hs : ls.set i (some (.ref x)) = ls') (K : zG p l e R s m args below meth c D dA A ad0 n0 nL Q mc ms k n (pc + 2) ls' st h) : zG p l e R s m args below meth c D dA A ad0 n0 nL Q mc ms k n pc ls (.ref x :: st) h := by
  subst hs
  exact fun ad H locs L h1 h2 h3 h4 h5 => lv_astore O.2.1 O.2.2.1 d h2 hn rfl (fun L' h2' => K ad H locs L' h1 (zl_set (v := .ref x) hc h2') h3 h4 h5)
theorem zi_iinc (O : zOK own cc nL ret rm p R s m args meth c D dA A) {i : Nat} {z : Int} {x v : Int32} {ls' : List (Option Value)} (d : decode cc pc = .ok (.iinc i z, 3)) (hc : ls.all zc1 = true) (hn : i < nL) (hx : ls[i]? = some (some (.int x))) (hv : x + Int32.ofInt z = v) (hs : ls.set i (some (.int v)) = ls') (K : zG p l e R s m args below meth c D dA A ad0 n0 nL Q mc ms k n (pc + 3) ls' st h) : zG p l e R s m args below meth c D dA A ad0 n0 nL Q mc ms k n pc ls st h := by
  subst hs
  intro ad H locs L h1 h2 h3 h4 h5
  obtain ⟨j, hj⟩ := List.getElem?_of_mem (zl_mem.mpr ⟨.int x, hx, rfl⟩ : (i, Value.int x) ∈ zl ad ls)
  exact lv_iinc O.2.1 O.2.2.1 d h2 hj hv hn rfl (fun L' h2' => K ad H locs L' h1 (zl_set (v := .int v) hc h2') h3 h4 h5)
theorem zi_iadd (O : zOK own cc nL ret rm p R s m args meth c D dA A) {x y : Int32} (d : decode cc pc = .ok (.iadd, 1)) (K : zG p l e R s m args below meth c D dA A ad0 n0 nL Q mc ms k n (pc + 1) ls (.int (x + y) :: st) h) : zG p l e R s m args below meth c D dA A ad0 n0 nL Q mc ms k n pc ls (.int y :: .int x :: st) h :=
  fun ad H locs L h1 h2 h3 h4 h5 => lv_iadd O.2.1 O.2.2.1 d (K ad H locs L h1 h2 h3 h4 h5)
theorem zi_isub (O : zOK own cc nL ret rm p R s m args meth c D dA A) {x y : Int32} (d : decode cc pc = .ok (.isub, 1)) (K : zG p l e R s m args below meth c D dA A ad0 n0 nL Q mc ms k n (pc + 1) ls (.int (x - y) :: st) h) : zG p l e R s m args below meth c D dA A ad0 n0 nL Q mc ms k n pc ls (.int y :: .int x :: st) h :=
  fun ad H locs L h1 h2 h3 h4 h5 => lv_isub O.2.1 O.2.2.1 d (K ad H locs L h1 h2 h3 h4 h5)
theorem zi_imul (O : zOK own cc nL ret rm p R s m args meth c D dA A) {x y : Int32} (d : decode cc pc = .ok (.imul, 1)) (K : zG p l e R s m args below meth c D dA A ad0 n0 nL Q mc ms k n (pc + 1) ls (.int (x * y) :: st) h) : zG p l e R s m args below meth c D dA A ad0 n0 nL Q mc ms k n pc ls (.int y :: .int x :: st) h :=
  fun ad H locs L h1 h2 h3 h4 h5 => lv_imul O.2.1 O.2.2.1 d (K ad H locs L h1 h2 h3 h4 h5)
theorem zi_iand (O : zOK own cc nL ret rm p R s m args meth c D dA A) {x y : Int32} (d : decode cc pc = .ok (.iand, 1)) (K : zG p l e R s m args below meth c D dA A ad0 n0 nL Q mc ms k n (pc + 1) ls (.int (x &&& y) :: st) h) : zG p l e R s m args below meth c D dA A ad0 n0 nL Q mc ms k n pc ls (.int y :: .int x :: st) h :=
  fun ad H locs L h1 h2 h3 h4 h5 => lv_iand O.2.1 O.2.2.1 d (K ad H locs L h1 h2 h3 h4 h5)
theorem zi_ior (O : zOK own cc nL ret rm p R s m args meth c D dA A) {x y : Int32} (d : decode cc pc = .ok (.ior, 1)) (K : zG p l e R s m args below meth c D dA A ad0 n0 nL Q mc ms k n (pc + 1) ls (.int (x ||| y) :: st) h) : zG p l e R s m args below meth c D dA A ad0 n0 nL Q mc ms k n pc ls (.int y :: .int x :: st) h :=
  fun ad H locs L h1 h2 h3 h4 h5 => lv_ior O.2.1 O.2.2.1 d (K ad H locs L h1 h2 h3 h4 h5)
theorem zi_ixor (O : zOK own cc nL ret rm p R s m args meth c D dA A) {x y : Int32} (d : decode cc pc = .ok (.ixor, 1)) (K : zG p l e R s m args below meth c D dA A ad0 n0 nL Q mc ms k n (pc + 1) ls (.int (x ^^^ y) :: st) h) : zG p l e R s m args below meth c D dA A ad0 n0 nL Q mc ms k n pc ls (.int y :: .int x :: st) h :=
  fun ad H locs L h1 h2 h3 h4 h5 => lv_ixor O.2.1 O.2.2.1 d (K ad H locs L h1 h2 h3 h4 h5)
theorem zi_ishl (O : zOK own cc nL ret rm p R s m args meth c D dA A) {x y : Int32} (d : decode cc pc = .ok (.ishl, 1)) (K : zG p l e R s m args below meth c D dA A ad0 n0 nL Q mc ms k n (pc + 1) ls (.int (x <<< (y &&& 31)) :: st) h) : zG p l e R s m args below meth c D dA A ad0 n0 nL Q mc ms k n pc ls (.int y :: .int x :: st) h :=
  fun ad H locs L h1 h2 h3 h4 h5 => lv_ishl O.2.1 O.2.2.1 d (K ad H locs L h1 h2 h3 h4 h5)
theorem zi_ishr (O : zOK own cc nL ret rm p R s m args meth c D dA A) {x y : Int32} (d : decode cc pc = .ok (.ishr, 1)) (K : zG p l e R s m args below meth c D dA A ad0 n0 nL Q mc ms k n (pc + 1) ls (.int (x >>> (y &&& 31)) :: st) h) : zG p l e R s m args below meth c D dA A ad0 n0 nL Q mc ms k n pc ls (.int y :: .int x :: st) h :=
  fun ad H locs L h1 h2 h3 h4 h5 => lv_ishr O.2.1 O.2.2.1 d (K ad H locs L h1 h2 h3 h4 h5)
theorem zi_ineg (O : zOK own cc nL ret rm p R s m args meth c D dA A) {x : Int32} (d : decode cc pc = .ok (.ineg, 1)) (K : zG p l e R s m args below meth c D dA A ad0 n0 nL Q mc ms k n (pc + 1) ls (.int (-x) :: st) h) : zG p l e R s m args below meth c D dA A ad0 n0 nL Q mc ms k n pc ls (.int x :: st) h :=
  fun ad H locs L h1 h2 h3 h4 h5 => lv_ineg O.2.1 O.2.2.1 d (K ad H locs L h1 h2 h3 h4 h5)
/-- the number on top by another name -/
theorem zi_top {x y : Int32} (hxy : x = y) (K : zG p l e R s m args below meth c D dA A ad0 n0 nL Q mc ms k n pc ls (.int y :: st) h) : zG p l e R s m args below meth c D dA A ad0 n0 nL Q mc ms k n pc ls (.int x :: st) h := hxy ▸ K
theorem zi_dup (O : zOK own cc nL ret rm p R s m args meth c D dA A) {v : Value} (d : decode cc pc = .ok (.dup, 1)) (hv : v.category = 1) (K : zG p l e R s m args below meth c D dA A ad0 n0 nL Q mc ms k n (pc + 1) ls (v :: v :: st) h) : zG p l e R s m args below meth c D dA A ad0 n0 nL Q mc ms k n pc ls (v :: st) h :=
  fun ad H locs L h1 h2 h3 h4 h5 => lv_dup O.2.1 O.2.2.1 d (by rw [zv_cat]; exact hv) (K ad H locs L h1 h2 h3 h4 h5)
theorem zi_dup_x1 (O : zOK own cc nL ret rm p R s m args meth c D dA A) {v w : Value} (d : decode cc pc = .ok (.dup_x1, 1)) (hv : v.category = 1) (hw : w.category = 1) (K : zG p l e R s m args below meth c D dA A ad0 n0 nL Q mc ms k n (pc + 1) ls (v :: w :: v :: st) h) : zG p l e R s m args below meth c D dA A ad0 n0 nL Q mc ms k n pc ls (v :: w :: st) h :=
  fun ad H locs L h1 h2 h3 h4 h5 => lv_dup_x1 O.2.1 O.2.2.1 d (by rw [zv_cat]; exact hv) (by rw [zv_cat]; exact hw) (K ad H locs L h1 h2 h3 h4 h5)
theorem zi_pop (O : zOK own cc nL ret rm p R s m args meth c D dA A) {v : Value} (d : decode cc pc = .ok (.pop, 1)) (hv : v.category = 1) (K : zG p l e R s m args below meth c D dA A ad0 n0 nL Q mc ms k n (pc + 1) ls st h) : zG p l e R s m args below meth c D dA A ad0 n0 nL Q mc ms k n pc ls (v :: st) h :=
  fun ad H locs L h1 h2 h3 h4 h5 => lv_pop O.2.1 O.2.2.1 d (by rw [zv_cat]; exact hv) (K ad H locs L h1 h2 h3 h4 h5)
theorem zi_goto (O : zOK own cc nL ret rm p R s m args meth c D dA A) {off : Int} (tgt : Nat) (d : decode cc pc = .ok (.goto off, 3)) (ht : (pc : Int) + off = (tgt : Int)) (K : zG p l e R s m args below meth c D dA A ad0 n0 nL Q mc ms k n tgt ls st h) : zG p l e R s m args below meth c D dA A ad0 n0 nL Q mc ms k n pc ls st h :=
  fun ad H locs L h1 h2 h3 h4 h5 => lv_goto O.2.1 O.2.2.1 d ht (K ad H locs L h1 h2 h3 h4 h5)
theorem zi_icmp_eq (O : zOK own cc nL ret rm p R s m args meth c D dA A) {x y : Int32} {off : Int} (tgt : Nat) (d : decode cc pc = .ok (.if_icmp .eq off, 3)) (ht : (pc : Int) + off = (tgt : Int)) (kt : x = y → zG p l e R s m args below meth c D dA A ad0 n0 nL Q mc ms k n tgt ls st h) (kf : ¬ x = y → zG p l e R s m args below meth c D dA A ad0 n0 nL Q mc ms k n (pc + 3) ls st h) : zG p l e R s m args below meth c D dA A ad0 n0 nL Q mc ms k n pc ls (.int y :: .int x :: st) h :=
  fun ad H locs L h1 h2 h3 h4 h5 => lv_icmp_eq O.2.1 O.2.2.1 d ht (fun z => kt z ad H locs L h1 h2 h3 h4 h5) (fun z => kf z ad H locs L h1 h2 h3 h4 h5)
theorem zi_if_eq (O : zOK own cc nL ret rm p R s m args meth c D dA A) {x : Int32} {off : Int} (tgt : Nat) (d : decode cc pc = .ok (.ifCond .eq off, 3)) (ht : (pc : Int) + off = (tgt : Int)) (kt : x = 0 → zG p l e R s m args below meth c D dA A ad0 n0 nL Q mc ms k n tgt ls st h) (kf : ¬ x = 0 → zG p l e R s m args below meth c D dA A ad0 n0 nL Q mc ms k n (pc + 3) ls st h) : zG p l e R s m args below meth c D dA A ad0 n0 nL Q mc ms k n pc ls (.int x :: st) h :=
  fun ad H locs L h1 h2 h3 h4 h5 => lv_if_eq O.2.1 O.2.2.1 d ht (fun z => kt z ad H locs L h1 h2 h3 h4 h5) (fun z => kf z ad H locs L h1 h2 h3 h4 h5)
theorem zi_icmp_ne (O : zOK own cc nL ret rm p R s m args meth c D dA A) {x y : Int32} {off : Int} (tgt : Nat) (d : decode cc pc = .ok (.if_icmp .ne off, 3)) (ht : (pc : Int) + off = (tgt : Int)) (kt : ¬ x = y → zG p l e R s m args below meth c D dA A ad0 n0 nL Q mc ms k n tgt ls st h) (kf : x = y → zG p l e R s m args below meth c D dA A ad0 n0 nL Q mc ms k n (pc + 3) ls st h) : zG p l e R s m args below meth c D dA A ad0 n0 nL Q mc ms k n pc ls (.int y :: .int x :: st) h :=
  fun ad H locs L h1 h2 h3 h4 h5 => lv_icmp_ne O.2.1 O.2.2.1 d ht (fun z => kt z ad H locs L h1 h2 h3 h4 h5) (fun z => kf z ad H locs L h1 h2 h3 h4 h5)
theorem zi_if_ne (O : zOK own cc nL ret rm p R s m args meth c D dA A) {x : Int32} {off : Int} (tgt : Nat) (d : decode cc pc = .ok (.ifCond .ne off, 3)) (ht : (pc : Int) + off = (tgt : Int)) (kt : ¬ x = 0 → zG p l e R s m args below meth c D dA A ad0 n0 nL Q mc ms k n tgt ls st h) (kf : x = 0 → zG p l e R s m args below meth c D dA A ad0 n0 nL Q mc ms k n (pc + 3) ls st h) : zG p l e R s m args below meth c D dA A ad0 n0 nL Q mc ms k n pc ls (.int x :: st) h :=
  fun ad H locs L h1 h2 h3 h4 h5 => lv_if_ne O.2.1 O.2.2.1 d ht (fun z => kt z ad H locs L h1 h2 h3 h4 h5) (fun z => kf z ad H locs L h1 h2 h3 h4 h5)
theorem zi_icmp_lt (O : zOK own cc nL ret rm p R s m args meth c D dA A) {x y : Int32} {off : Int} (tgt : Nat) (d : decode cc pc = .ok (.if_icmp .lt off, 3)) (ht : (pc : Int) + off = (tgt : Int)) (kt : x < y → zG p l e R s m args below meth c D dA A ad0 n0 nL Q mc ms k n tgt ls st h) (kf : ¬ x < y → zG p l e R s m args below meth c D dA A ad0 n0 nL Q mc ms k n (pc + 3) ls st h) : zG p l e R s m args below meth c D dA A ad0 n0 nL Q mc ms k n pc ls (.int y :: .int x :: st) h :=
  fun ad H locs L h1 h2 h3 h4 h5 => lv_icmp_lt O.2.1 O.2.2.1 d ht (fun z => kt z ad H locs L h1 h2 h3 h4 h5) (fun z => kf z ad H locs L h1 h2 h3 h4 h5)
theorem zi_if_lt (O : zOK own cc nL ret rm p R s m args meth c D dA A) {x : Int32} {off : Int} (tgt : Nat) (d : decode cc pc = .ok (.ifCond .lt off, 3)) (ht : (pc : Int) + off = (tgt : Int)) (kt : x < 0 → zG p l e R s m args below meth c D dA A ad0 n0 nL Q mc ms k n tgt ls st h) (kf : ¬ x < 0 → zG p l e R s m args below meth c D dA A ad0 n0 nL Q mc ms k n (pc + 3) ls st h) : zG p l e R s m args below meth c D dA A ad0 n0 nL Q mc ms k n pc ls (.int x :: st) h :=
  fun ad H locs L h1 h2 h3 h4 h5 => lv_if_lt O.2.1 O.2.2.1 d ht (fun z => kt z ad H locs L h1 h2 h3 h4 h5) (fun z => kf z ad H locs L h1 h2 h3 h4 h5)
theorem zi_icmp_ge (O : zOK own cc nL ret rm p R s m args meth c D dA A) {x y : Int32} {off : Int} (tgt : Nat) (d : decode cc pc = .ok (.if_icmp .ge off, 3)) (ht : (pc : Int) + off = (tgt : Int)) (kt : y ≤ x → zG p l e R s m args below meth c D dA A ad0 n0 nL Q mc ms k n tgt ls st h) (kf : ¬ y ≤ x → zG p l e R s m args below meth c D dA A ad0 n0 nL Q mc ms k n (pc + 3) ls st h) : zG p l e R s m args below meth c D dA A ad0 n0 nL Q mc ms k n pc ls (.int y :: .int x :: st) h :=
  fun ad H locs L h1 h2 h3 h4 h5 => lv_icmp_ge O.2.1 O.2.2.1 d ht (fun z => kt z ad H locs L h1 h2 h3 h4 h5) (fun z => kf z ad H locs L h1 h2 h3 h4 h5)
theorem zi_if_ge (O : zOK own cc nL ret rm p R s m args meth c D dA A) {x : Int32} {off : Int} (tgt : Nat) (d : decode cc pc = .ok (.ifCond .ge off, 3)) (ht : (pc : Int) + off = (tgt : Int)) (kt : 0 ≤ x → zG p l e R s m args below meth c D dA A ad0 n0 nL Q mc ms k n tgt ls st h) (kf : ¬ 0 ≤ x → zG p l e R s m args below meth c D dA A ad0 n0 nL Q mc ms k n (pc + 3) ls st h) : zG p l e R s m args below meth c D dA A ad0 n0 nL Q mc ms k n pc ls (.int x :: st) h :=
  fun ad H locs L h1 h2 h3 h4 h5 => lv_if_ge O.2.1 O.2.2.1 d ht (fun z => kt z ad H locs L h1 h2 h3 h4 h5) (fun z => kf z ad H locs L h1 h2 h3 h4 h5)
theorem zi_icmp_gt (O : zOK own cc nL ret rm p R s m args meth c D dA A) {x y : Int32} {off : Int} (tgt : Nat) (d : decode cc pc = .ok (.if_icmp .gt off, 3)) (ht : (pc : Int) + off = (tgt : Int)) (kt : y < x → zG p l e R s m args below meth c D dA A ad0 n0 nL Q mc ms k n tgt ls st h) (kf : ¬ y < x → zG p l e R s m args below meth c D dA A ad0 n0 nL Q mc ms k n (pc + 3) ls st h) : zG p l e R s m args below meth c D dA A ad0 n0 nL Q mc ms k n pc ls (.int y :: .int x :: st) h :=
  fun ad H locs L h1 h2 h3 h4 h5 => lv_icmp_gt O.2.1 O.2.2.1 d ht (fun z => kt z ad H locs L h1 h2 h3 h4 h5) (fun z => kf z ad H locs L h1 h2 h3 h4 h5)
theorem zi_if_gt (O : zOK own cc nL ret rm p R s m args meth c D dA A) {x : Int32} {off : Int} (tgt : Nat) (d : decode cc pc = .ok (.ifCond .gt off, 3)) (ht : (pc : Int) + off = (tgt : Int)) (kt : 0 < x → zG p l e R s m args below meth c D dA A ad0 n0 nL Q mc ms k n tgt ls st h) (kf : ¬ 0 < x → zG p l e R s m args below meth c D dA A ad0 n0 nL Q mc ms k n (pc + 3) ls st h) : zG p l e R s m args below meth c D dA A ad0 n0 nL Q mc ms k n pc ls (.int x :: st) h :=
  fun ad H locs L h1 h2 h3 h4 h5 => lv_if_gt O.2.1 O.2.2.1 d ht (fun z => kt z ad H locs L h1 h2 h3 h4 h5) (fun z => kf z ad H locs L h1 h2 h3 h4 h5)
theorem zi_icmp_le (O : zOK own cc nL ret rm p R s m args meth c D dA A) {x y : Int32} {off : Int} (tgt : Nat) (d : decode cc pc = .ok (.if_icmp .le off, 3)) (ht : (pc : Int) + off = (tgt : Int)) (kt : x ≤ y → zG p l e R s m args below meth c D dA A ad0 n0 nL Q mc ms k n tgt ls st h) (kf : ¬ x ≤ y → zG p l e R s m args below meth c D dA A ad0 n0 nL Q mc ms k n (pc + 3) ls st h) : zG p l e R s m args below meth c D dA A ad0 n0 nL Q mc ms k n pc ls (.int y :: .int x :: st) h :=
  fun ad H locs L h1 h2 h3 h4 h5 => lv_icmp_le O.2.1 O.2.2.1 d ht (fun z => kt z ad H locs L h1 h2 h3 h4 h5) (fun z => kf z ad H locs L h1 h2 h3 h4 h5)
theorem zi_if_le (O : zOK own cc nL ret rm p R s m args meth c D dA A) {x : Int32} {off : Int} (tgt : Nat) (d : decode cc pc = .ok (.ifCond .le off, 3)) (ht : (pc : Int) + off = (tgt : Int)) (kt : x ≤ 0 → zG p l e R s m args below meth c D dA A ad0 n0 nL Q mc ms k n tgt ls st h) (kf : ¬ x ≤ 0 → zG p l e R s m args below meth c D dA A ad0 n0 nL Q mc ms k n (pc + 3) ls st h) : zG p l e R s m args below meth c D dA A ad0 n0 nL Q mc ms k n pc ls (.int x :: st) h :=
  fun ad H locs L h1 h2 h3 h4 h5 => lv_if_le O.2.1 O.2.2.1 d ht (fun z => kt z ad H locs L h1 h2 h3 h4 h5) (fun z => kf z ad H locs L h1 h2 h3 h4 h5)
theorem zi_tableOut (O : zOK own cc nL ret rm p R s m args meth c D dA A) {dflt lo hi : Int} {offs : Array Int} {len : Nat} {x : Int32} (tgt : Nat) (d : decode cc pc = .ok (.tableswitch dflt lo hi offs, len)) (hx : x.toInt < lo ∨ hi < x.toInt) (ht : (pc : Int) + dflt = (tgt : Int)) (K : zG p l e R s m args below meth c D dA A ad0 n0 nL Q mc ms k n tgt ls st h) : zG p l e R s m args below meth c D dA A ad0 n0 nL Q mc ms k n pc ls (.int x :: st) h :=
  fun ad H locs L h1 h2 h3 h4 h5 => lv_tableOut O.2.1 O.2.2.1 d hx ht (K ad H locs L h1 h2 h3 h4 h5)
theorem zi_tableIn (O : zOK own cc nL ret rm p R s m args meth c D dA A) {dflt lo hi : Int} {offs : Array Int} {len : Nat} {x : Int32} {off : Int} (tgt : Nat) (d : decode cc pc = .ok (.tableswitch dflt lo hi offs, len)) (hx1 : ¬ x.toInt < lo) (hx2 : ¬ hi < x.toInt) (ho : offs[(x.toInt - lo).toNat]? = some off) (ht : (pc : Int) + off = (tgt : Int)) (K : zG p l e R s m args below meth c D dA A ad0 n0 nL Q mc ms k n tgt ls st h) : zG p l e R s m args below meth c D dA A ad0 n0 nL Q mc ms k n pc ls (.int x :: st) h :=
  fun ad H locs L h1 h2 h3 h4 h5 => lv_tableIn O.2.1 O.2.2.1 d hx1 hx2 ho ht (K ad H locs L h1 h2 h3 h4 h5)
theorem zi_iret (O : zOK own cc nL (some .int) rm p R s m args meth c D dA A) {v : Int32} (d : decode cc pc = .ok (.ireturn, 1)) (hk : k ≤ mc) (hn : n ≤ ms) (h0 : n0 ≤ h.length) (hq : Q (some (.int v)) h) : zG p l e R s m args below meth c D dA A ad0 n0 nL Q mc ms k n pc ls [.int v] h :=
  fun ad H locs L h1 h2 h3 h4 h5 => W.widen hk hn (W.iret (v := v) O.2.1 O.2.2.1 O.2.2.2.2.2.2.1 (fun t ht hW => ⟨⟨some (.int v), h, ad, rfl, hq, h1, h0, by rw [ht]; exact h3, va_K.moved hW.alike O.2.2.2.2.2.2.2.2.1, h4⟩, h5.F ht⟩) h5.2.2 d O.2.2.2.2.2.2.2.1)
theorem zi_zret (O : zOK own cc nL (some .boolean) rm p R s m args meth c D dA A) {v : Int32} (d : decode cc pc = .ok (.ireturn, 1)) (hv : narrow .boolean (.int v) = .int v) (hk : k ≤ mc) (hn : n ≤ ms) (h0 : n0 ≤ h.length) (hq : Q (some (.int v)) h) : zG p l e R s m args below meth c D dA A ad0 n0 nL Q mc ms k n pc ls [.int v] h :=
  fun ad H locs L h1 h2 h3 h4 h5 => W.widen hk hn (W.zret (v := v) O.2.1 O.2.2.1 O.2.2.2.2.2.2.1 hv (fun t ht hW => ⟨⟨some (.int v), h, ad, rfl, hq, h1, h0, by rw [ht]; exact h3, va_K.moved hW.alike O.2.2.2.2.2.2.2.2.1, h4⟩, h5.F ht⟩) h5.2.2 d O.2.2.2.2.2.2.2.1)
theorem zi_vret (O : zOK own cc nL none rm p R s m args meth c D dA A) (d : decode cc pc = .ok (.return_, 1)) (hk : k ≤ mc) (hn : n ≤ ms) (h0 : n0 ≤ h.length) (hq : Q none h) : zG p l e R s m args below meth c D dA A ad0 n0 nL Q mc ms k n pc ls [] h :=
  fun ad H locs L h1 h2 h3 h4 h5 => W.widen hk hn (W.vret O.2.1 O.2.2.1 O.2.2.2.2.2.2.1 (fun t ht hW => ⟨⟨none, h, ad, rfl, hq, h1, h0, by rw [ht]; exact h3, va_K.moved hW.alike O.2.2.2.2.2.2.2.2.1, h4⟩, h5.F ht⟩) h5.2.2 d O.2.2.2.2.2.2.2.1)
theorem zi_aret {rt : FieldType} (O : zOK own cc nL (some rt) rm p R s m args meth c D dA A) {v : Nat} (d : decode cc pc = .ok (.areturn, 1)) (hrt : (∃ n, rt = .object n) ∨ ∃ t, rt = .array t) (hk : k ≤ mc) (hn : n ≤ ms) (h0 : n0 ≤ h.length) (hq : Q (some (.ref v)) h) : zG p l e R s m args below meth c D dA A ad0 n0 nL Q mc ms k n pc ls [.ref v] h :=
  fun ad H locs L h1 h2 h3 h4 h5 => W.widen hk hn (W.aret (v := .ref (ad v)) O.2.1 O.2.2.1 O.2.2.2.2.2.2.1 hrt (Or.inr ⟨_, rfl⟩) (fun t ht hW => ⟨⟨some (.ref v), h, ad, rfl, hq, h1, h0, by rw [ht]; exact h3, va_K.moved hW.alike O.2.2.2.2.2.2.2.2.1, h4⟩, h5.F ht⟩) h5.2.2 d O.2.2.2.2.2.2.2.1)
/-- cells behind are forgotten -/
theorem zi_drop (j : Nat) (K : zG p l e R s m args below meth c D dA A ad0 n0 nL Q mc ms k n pc ls st (h.take j)) : zG p l e R s m args below meth c D dA A ad0 n0 nL Q mc ms k n pc ls st h := by
  intro ad H locs L h1 h2 h3 h4 h5
  have key : ∀ (i : Nat) (q : Nat × va_E), (zw dA ad (h.take j))[i]? = some q → (zw dA ad h)[i]? = some q := by
    intro i q hi
    rw [zw_take, List.getElem?_take] at hi
    by_cases hj : i < j
    · rw [if_pos hj] at hi; exact hi
    · rw [if_neg hj] at hi; cases hi
  exact K ad H locs L h1 h2 (fun i q hi => h3 i q (key i q hi)) ⟨fun i j x y hi hj => h4.1 i j x y (key i x hi) (key j y hj), fun i q hi => h4.2 i q (key i q hi)⟩ h5
theorem zi_widen {k' n' : Nat} (hk : k ≤ k') (hn : n ≤ n') (K : zG p l e R s m args below meth c D dA A ad0 n0 nL Q mc ms k' n' pc ls st h) : zG p l e R s m args below meth c D dA A ad0 n0 nL Q mc ms k n pc ls st h :=
  fun ad H locs L h1 h2 h3 h4 h5 => W.widen hk hn (K ad H locs L h1 h2 h3 h4 h5)
/-! fields and arrays -/
def zF (own : String) (index ci j : Nat) (ty : FieldType) (fin : Bool) : Prop := ∃ (C : String) (T : u_T) (N : Nat) (ty0 : Nat → FieldType), vwCl[ci]? = some (C, T, N) ∧ j < N ∧ Cond.fieldLink own index C (T j).2.1 (T j).2.2.1 ∈ zt ∧ (T j).1 = C ∧ (∀ w ∈ u_ws C T N, w ∈ zt) ∧ (∀ k, k < N → parseFieldDescriptor (T k).2.2.1 = some (ty0 k)) ∧ (∀ a, a < N → ∀ b, b < N → a ≠ b → (T a).2.1 ≠ (T b).2.1) ∧ ty0 j = ty ∧ (T j).2.2.2 = fin
theorem zi_get (O : zOK own cc nL ret rm p R s m args meth c D dA A) {index ci j q : Nat} {ty : FieldType} {fin : Bool} {fs : List Value} {v : Value} (F : zF own index ci j ty fin) (d : decode cc pc = .ok (.getfield index, 3)) (he : h[q]? = some (.inr (ci, fs))) (hv : fs[j]? = some v) (K : zG p l e R s m args below meth c D dA A ad0 n0 nL Q mc ms k n (pc + 3) ls (v :: st) h) : zG p l e R s m args below meth c D dA A ad0 n0 nL Q mc ms k n pc ls (.ref q :: st) h := by
  obtain ⟨C, T, N, ty0, F1, F2, F3, F4, F5, F6, F7, F8, F9⟩ := F
  obtain ⟨-, o1, o2, o3, o4, o5, o6, o7, o8, o9, o10⟩ := O
  exact fun ad H locs L h1 h2 h3 h4 h5 => va_get (D := D) (ci := ci) (v := zv ad v) (C := C) (T := T) (N := N) (fs := fs.map (zv ad)) (ref := C) o1 o2 o5 F5 o4 o8 h3 q (zw_at q he) F1 j F2 (o5 _ F3) (fun x hx => by rw [F4] at hx; exact hx) (by rw [List.getElem?_map, hv]; rfl) d (K ad H locs L h1 h2 h3 h4 h5)
theorem zi_put (O : zOK own cc nL ret rm p R s m args meth c D dA A) {index ci j q : Nat} {ty : FieldType} {fs : List Value} {v : Value} {h' : List zE} (F : zF own index ci j ty false) (d : decode cc pc = .ok (.putfield index, 3)) (he : h[q]? = some (.inr (ci, fs))) (hj : j < fs.length) (hn : ∀ ad, narrow ty (zv ad v) = zv ad v) (hf : ∀ ad, fits ty (zv ad v) = true) (hh : h.set q (.inr (ci, fs.set j v)) = h') (K : zG p l e R s m args below meth c D dA A ad0 n0 nL Q mc ms k n (pc + 3) ls st h') : zG p l e R s m args below meth c D dA A ad0 n0 nL Q mc ms k n pc ls (v :: .ref q :: st) h := by
  subst hh
  obtain ⟨C, T, N, ty0, F1, F2, F3, F4, F5, F6, F7, F8, F9⟩ := F
  obtain ⟨-, o1, o2, o3, o4, o5, o6, o7, o8, o9, o10⟩ := O
  intro ad H locs L h1 h2 h3 h4 h5
  have e1 : zw dA ad (h.set q (.inr (ci, fs.set j v))) = (zw dA ad h).set q (ad q, .inr (ci, (fs.map (zv ad)).set j (zv ad v))) := by
    rw [zw_set, ← List.map_set]; rfl
  exact va_put (D := D) (ci := ci) (v := zv ad v) (ty := ty) (C := C) (T := T) (N := N) (fs := fs.map (zv ad)) (ref := C) o1 o2 o5 F5 ty0 F6 F7 o4 o8 h3 h4 h5 q (zw_at q he) F1 j F2 (o5 _ F3) (fun x hx => by rw [F4] at hx; exact hx) F9 (by rw [F6 j F2, F8]) (hn ad) (hf ad) (by simpa using hj) d
    (fun H1 locs1 a1 a2 a3 => K ad H1 locs1 L h1 h2 (by rw [e1]; exact a1) (by rw [e1]; exact a2) a3)
theorem zi_putF (O : zOK own cc nL ret rm p R s m args meth c D dA A) (hin : meth.name = "<init>") {index ci j q : Nat} {ty : FieldType} {fs : List Value} {v : Value} {h' : List zE} (F : zF own index ci j ty true) (d : decode cc pc = .ok (.putfield index, 3)) (hC : (vwCl[ci]?).map (fun x => x.1) = some own) (he : h[q]? = some (.inr (ci, fs))) (hj : j < fs.length) (hn : ∀ ad, narrow ty (zv ad v) = zv ad v) (hf : ∀ ad, fits ty (zv ad v) = true) (hh : h.set q (.inr (ci, fs.set j v)) = h') (K : zG p l e R s m args below meth c D dA A ad0 n0 nL Q mc ms k n (pc + 3) ls st h') : zG p l e R s m args below meth c D dA A ad0 n0 nL Q mc ms k n pc ls (v :: .ref q :: st) h := by
  subst hh
  obtain ⟨C, T, N, ty0, F1, F2, F3, F4, F5, F6, F7, F8, F9⟩ := F
  obtain ⟨-, o1, o2, o3, o4, o5, o6, o7, o8, o9, o10⟩ := O
  intro ad H locs L h1 h2 h3 h4 h5
  have e1 : zw dA ad (h.set q (.inr (ci, fs.set j v))) = (zw dA ad h).set q (ad q, .inr (ci, (fs.map (zv ad)).set j (zv ad v))) := by
    rw [zw_set, ← List.map_set]; rfl
  have e2 : C = own := by rw [F1] at hC; exact Option.some.inj hC
  exact va_putF (D := D) (ci := ci) (v := zv ad v) (ty := ty) (C := C) (T := T) (N := N) (fs := fs.map (zv ad)) (ref := C) o1 o2 o5 F5 ty0 F6 F7 o4 o8 h3 h4 h5 q (zw_at q he) F1 j F2 (o5 _ F3) (fun x hx => by rw [F4] at hx; exact hx) F9 hin (F4.trans e2) (by rw [F6 j F2, F8]) (hn ad) (hf ad) (by simpa using hj) d
    (fun H1 locs1 a1 a2 a3 => K ad H1 locs1 L h1 h2 (by rw [e1]; exact a1) (by rw [e1]; exact a2) a3)
theorem zi_iald (O : zOK own cc nL ret rm p R s m args meth c D dA A) {q N a : Nat} {f : Nat → Int32} {i : Int32} (d : decode cc pc = .ok (.iaload, 1)) (he : h[q]? = some (.inl (0, N, .inl f))) (hi : i = nI a) (ha : a < N) (hN : N < 2 ^ 31) (K : zG p l e R s m args below meth c D dA A ad0 n0 nL Q mc ms k n (pc + 1) ls (.int (f a) :: st) h) : zG p l e R s m args below meth c D dA A ad0 n0 nL Q mc ms k n pc ls (.int i :: .ref q :: st) h := by
  subst hi
  obtain ⟨-, o1, o2, o3, o4, o5, o6, o7, o8, o9, o10⟩ := O
  intro ad H locs L h1 h2 h3 h4 h5
  refine va_iald o1 o2 o8 h3 q 0 (zw_at q he) rfl (vp_in_nI ha hN) d ?_
  rw [nI_clamp (by omega)]
  exact K ad H locs L h1 h2 h3 h4 h5
theorem zi_iast (O : zOK own cc nL ret rm p R s m args meth c D dA A) {q N a : Nat} {f : Nat → Int32} {i x : Int32} {h' : List zE} (d : decode cc pc = .ok (.iastore, 1)) (he : h[q]? = some (.inl (0, N, .inl f))) (hi : i = nI a) (ha : a < N) (hN : N < 2 ^ 31) (hh : h.set q (.inl (0, N, .inl (upd f a x))) = h') (K : zG p l e R s m args below meth c D dA A ad0 n0 nL Q mc ms k n (pc + 1) ls st h') : zG p l e R s m args below meth c D dA A ad0 n0 nL Q mc ms k n pc ls (.int x :: .int i :: .ref q :: st) h := by
  subst hi
  subst hh
  obtain ⟨-, o1, o2, o3, o4, o5, o6, o7, o8, o9, o10⟩ := O
  intro ad H locs L h1 h2 h3 h4 h5
  refine va_iast o1 o2 o8 h3 h4 h5 q 0 (zw_at q he) rfl (vp_in_nI ha hN) d ?_
  rw [nI_clamp (by omega)]
  exact fun H1 locs1 a1 a2 a3 => K ad H1 locs1 L h1 h2 (by rw [zw_set]; exact a1) (by rw [zw_set]; exact a2) a3
theorem zi_alen (O : zOK own cc nL ret rm p R s m args meth c D dA A) {q N : Nat} {f : Nat → Int32} (d : decode cc pc = .ok (.arraylength, 1)) (he : h[q]? = some (.inl (0, N, .inl f))) (K : zG p l e R s m args below meth c D dA A ad0 n0 nL Q mc ms k n (pc + 1) ls (.int (nI N) :: st) h) : zG p l e R s m args below meth c D dA A ad0 n0 nL Q mc ms k n pc ls (.ref q :: st) h := by
  obtain ⟨-, o1, o2, o3, o4, o5, o6, o7, o8, o9, o10⟩ := O
  exact fun ad H locs L h1 h2 h3 h4 h5 => va_alen o1 o2 o8 h3 q 0 (zw_at q he) rfl rfl d (K ad H locs L h1 h2 h3 h4 h5)
end ZI
