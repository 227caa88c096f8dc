/-! the law's walk -/
/-- both sides' cells -/
def lawH (hC hM : List zE) : List zE := hC.map (zc (fun i => i + 0)) ++ (hM.map (zc (fun i => i + 37)) ++ [])
/-- the law's locals -/
def ΦL (b i : Nat) : (Nat → Nat) → Array Slot → Prop := fun f L => lv_has L 4 [(0, .ref b), (1, .ref (f 0)), (2, .ref (f 37)), (3, .int (nI i))]
def MFit (h : List zE) : Prop := h.length = 15 ∧ h.all (zok 15) = true ∧ ∃ fs, h[0]? = some (.inr (7, fs))
theorem mdl_fit {k n : Nat} {plab lab : Nat → Nat} {T S : Nat → Int32} {ci : Int32} {h : List zE} (hm : Mdl k plab T n lab S ci h) : MFit h := by
  obtain ⟨wrong, pS, pL, oN, oC, S, L, oS, oL, labs, row, fresh, piece, closed, faces, comp, fof, sides, side, free, arnd, rfl, -⟩ := hm
  exact ⟨rfl, rfl, _, rfl⟩
theorem cls_fit {h : List zE} (hc : Cls h) : h.length = 37 ∧ h.all (zok 37) = true ∧ ∃ fs, h[0]? = some (.inr (0, fs)) := by
  obtain ⟨n, lab, S, ci, k, plab, T, cj, hv⟩ := hc
  rcases hv with ⟨hA, hB, hP, hR, rfl⟩ | ⟨hB, hA, hR, hP, rfl⟩
  · obtain ⟨L, m, PL, LB, FR, TO, AT, F, OF, RD, ST, pc, co, OC, CE, SL, rfl⟩ := dr_form hP
    obtain ⟨L', m', PL', LB', FR', TO', AT', F', OF', RD', ST', pc', co', OC', CE', SL', rfl⟩ := dr_form hR
    exact ⟨rfl, rfl, _, rfl⟩
  · obtain ⟨L, m, PL, LB, FR, TO, AT, F, OF, RD, ST, pc, co, OC, CE, SL, rfl⟩ := dr_form hP
    obtain ⟨L', m', PL', LB', FR', TO', AT', F', OF', RD', ST', pc', co', OC', CE', SL', rfl⟩ := dr_form hR
    exact ⟨rfl, rfl, _, rfl⟩
theorem rl_cls {hC hM : List zE} (h : Rl hC hM) : Cls hC ∧ MFit hM := by
  obtain ⟨n, lab, S, ci, el, fr, to_, at_, oc, k, plab, T, cj, hv, hm⟩ := h
  exact ⟨mv_cls hv, mdl_fit hm⟩
theorem zok_shift {N M o : Nat} (hM : N + o ≤ M) {e : zE} (he : zok N e = true) : zok M (zc (fun i => i + o) e) = true := by
  rcases e with ⟨t, n, x⟩ | ⟨ci, fs⟩
  · rcases x with x | x | x | x | x
    · rfl
    · rfl
    · rfl
    · rfl
    · cases he
  · show (fs.map (zv (fun i => i + o))).all (zvok M) = true
    rw [List.all_map]
    refine List.all_eq_true.mpr (fun v hv => ?_)
    have h1 := List.all_eq_true.mp he v hv
    cases v with
    | ref a =>
      have h2 : a < N := by simpa [zvok] using h1
      show decide (a + o < M) = true
      exact decide_eq_true (Nat.lt_of_lt_of_le (Nat.add_lt_add_right h2 o) hM)
    | _ => rfl
theorem lawH_ok {hC hM : List zE} (hc : Cls hC) (hm : MFit hM) : (lawH hC hM).length = 52 ∧ (lawH hC hM).all (zok (lawH hC hM).length) = true := by
  obtain ⟨c1, c2, -⟩ := cls_fit hc
  obtain ⟨m1, m2, -⟩ := hm
  have e : (lawH hC hM).length = 52 := by unfold lawH; simp [c1, m1]
  refine ⟨e, ?_⟩
  rw [e]
  refine List.all_eq_true.mpr (fun x hx => ?_)
  unfold lawH at hx
  rcases List.mem_append.mp hx with hx | hx
  · obtain ⟨y, hy, rfl⟩ := List.mem_map.mp hx
    exact zok_shift (N := 37) (by omega) (List.all_eq_true.mp c2 y hy)
  · rw [List.append_nil] at hx
    obtain ⟨y, hy, rfl⟩ := List.mem_map.mp hx
    exact zok_shift (N := 15) (by omega) (List.all_eq_true.mp m2 y hy)
theorem phi_sz {b i : Nat} : ∀ (f : Nat → Nat) (L : Array Slot), ΦL b i f L → L.size = 4 := fun f L h => h.1
theorem phi_ls {b i M : Nat} (hM : M = 52) : ∀ (f g : Nat → Nat) (L : Array Slot), (∀ j, j < M → f j = g j) → ΦL b i f L → ΦL b i g L := by
  intro f g L hfg h
  unfold ΦL at h ⊢
  rw [← hfg 0 (by omega), ← hfg 37 (by omega)]
  exact h
theorem phi_03 {b i : Nat} : ∀ (f : Nat → Nat) (L : Array Slot), ΦL b i f L → L[0]? = some (.val (.ref b)) ∧ L[3]? = some (.val (.int (nI i))) := fun f L h => ⟨lv_at h 0 rfl, lv_at h 3 rfl⟩
theorem phi_1 {b i : Nat} : ∀ (f : Nat → Nat) (L : Array Slot), ΦL b i f L → L[(1 : Fin 4).val]? = some (.val (.ref (f 0))) := fun f L h => lv_at h 1 rfl
theorem phi_2 {b i : Nat} : ∀ (f : Nat → Nat) (L : Array Slot), ΦL b i f L → L[(2 : Fin 4).val]? = some (.val (.ref (f 37))) := fun f L h => lv_at h 2 rfl
def DuoM (yM : MethodName) (bM : ByteArray) (nM : Nat) (tM : FieldType) (av : List Value) (h' hM : List zE) (v : Int32) : Prop :=
  ∃ (rM : Room) (Qm : Option Value → List zE → Prop), rM.frames ≤ 8 ∧ rM.locals ≤ 220 ∧ rM.cells ≤ 0 ∧ rM.slots ≤ 0 ∧ zMet yM bM nM (some tM) rM (.ref 0 :: av) hM Qm ∧ ∀ r' h'', Qm r' h'' → r' = some (.int v) ∧ Rl h' h''
section
variable {p : Program} {l : Launch} {e : Env} {s : State} {m : MethodId} {below : List Frame} {meth : Method} {c : Code} {D : va_G} {dA : Nat → ClassId} {b Ln : Nat} {xs : Nat → Int32} {k n pc i : Nat} {hC hM : List zE}
set_option maxHeartbeats 1000000 in
theorem law_c (O : zOK R_law code 4 ret room_1 p room_1 s m #[Value.ref b] meth c D dA (fun q => s.heap.size ≤ q)) {Z : State → Prop} {idx np nC nM : Nat} {yC yM : MethodName} {bC bM : ByteArray} {tC tM : FieldType} (av : List Value) (C : zCV R_law idx yC 0 np) (cm : Cond.code yC bC nC (some tC) ∈ zt) (d : decode code pc = .ok (.invokevirtual idx, 3)) (hnC : nC ≤ 20) (hnp : av.length = np) (hav : av.all (zvok 0) = true) (hk : k + 2 ≤ 600000) (hn : n + 6 ≤ 7302250)
    (hD : Duo yC bC nC tC yM bM nM tM av hC hM) (hfC : Cls hC) (hfM : MFit hM) {st : List Value} (hst : st = av.reverse ++ .ref 0 :: [])
    (K : ∀ (v : Int32) (h' : List zE), Cls h' → DuoM yM bM nM tM av h' hM v → zL p l e room_1 s m #[Value.ref b] below meth c D dA (fun q => s.heap.size ≤ q) Z (k + 2) (n + 6) (pc + 3) (ΦL b i) [.int v] (lawH h' hM)) :
    zL p l e room_1 s m #[Value.ref b] below meth c D dA (fun q => s.heap.size ≤ q) Z k n pc (ΦL b i) st (lawH hC hM) := by
  obtain ⟨c1, c2, fs, c3⟩ := cls_fit hfC
  obtain ⟨l1, l2⟩ := lawH_ok hfC hfM
  obtain ⟨rC, Qc, r1, r2, r3, r4, hz, hq⟩ := hD
  refine zl_blkV phi_sz O 0 [] hC (hM.map (zc (fun i => i + 37)) ++ []) rfl rfl C cm hz d ⟨?_, ?_⟩ ⟨?_, ?_⟩ hnp c3 (Nat.zero_le _) l2 (phi_ls l1) rfl hav (by rw [c1]; exact c2) (fun r h' hQ => ?_) hst (fun r h' hQ => ?_)
  · show rC.frames + 1 ≤ 10; omega
  · show 8 + (nC + 11) + rC.locals ≤ 380; omega
  · show k + rC.cells ≤ 600000; omega
  · show n + rC.slots ≤ 7302250; omega
  · obtain ⟨v, -, hc', -⟩ := hq r h' hQ
    obtain ⟨d1, d2, -⟩ := cls_fit hc'
    rw [c1]
    exact ⟨d1, d2⟩
  · obtain ⟨v, rfl, hc', hm'⟩ := hq r h' hQ
    refine zl_widen (k' := k + 2) (n' := n + 6) (by omega) (by omega) ?_
    exact K v h' hc' hm'
set_option maxHeartbeats 1000000 in
theorem law_m (O : zOK R_law code 4 ret room_1 p room_1 s m #[Value.ref b] meth c D dA (fun q => s.heap.size ≤ q)) {Z : State → Prop} {idx np nM : Nat} {yM : MethodName} {bM : ByteArray} {tM : FieldType} (av : List Value) (C : zCV R_law idx yM 7 np) (cm : Cond.code yM bM nM (some tM) ∈ zt) (d : decode code pc = .ok (.invokevirtual idx, 3)) (hnM : nM ≤ 20) (hnp : av.length = np) (hav : av.all (zvok 0) = true) (hk : k ≤ 600000) (hn : n ≤ 7302250) {v : Int32}
    (hD : DuoM yM bM nM tM av hC hM v) (hfC : Cls hC) (hfM : MFit hM) {st : List Value} (hst : st = av.reverse ++ .ref 37 :: [.int v])
    (K : ∀ (h'' : List zE), Rl hC h'' → zL p l e room_1 s m #[Value.ref b] below meth c D dA (fun q => s.heap.size ≤ q) Z k n (pc + 3) (ΦL b i) [.int v, .int v] (lawH hC h'')) :
    zL p l e room_1 s m #[Value.ref b] below meth c D dA (fun q => s.heap.size ≤ q) Z k n pc (ΦL b i) st (lawH hC hM) := by
  obtain ⟨c1, c2, -⟩ := cls_fit hfC
  obtain ⟨l1, l2⟩ := lawH_ok hfC hfM
  obtain ⟨m1, m2, fs, m3⟩ := hfM
  obtain ⟨rM, Qm, r1, r2, r3, r4, hz, hq⟩ := hD
  refine zl_blkV phi_sz O 37 (hC.map (zc (fun i => i + 0))) hM [] rfl (by rw [List.length_map]; exact c1) C cm hz d ⟨?_, ?_⟩ ⟨?_, ?_⟩ hnp m3 (Nat.le_of_ble_eq_true rfl) l2 (phi_ls l1) rfl hav (by rw [m1]; exact m2) (fun r h' hQ => ?_) hst (fun r h' hQ => ?_)
  · show rM.frames + 1 ≤ 10; omega
  · show 8 + (nM + 11) + rM.locals ≤ 380; omega
  · show k + rM.cells ≤ 600000; omega
  · show n + rM.slots ≤ 7302250; omega
  · obtain ⟨-, hR⟩ := hq r h' hQ
    obtain ⟨d1, d2, -⟩ := (rl_cls hR).2
    rw [m1]
    exact ⟨d1, d2⟩
  · obtain ⟨rfl, hR⟩ := hq r h' hQ
    refine zl_widen (k' := k) (n' := n) (by omega) (by omega) ?_
    exact K h' hR
set_option maxHeartbeats 1000000 in
theorem law_0 (O : zOK R_law code 4 ret room_1 p room_1 s m #[Value.ref b] meth c D dA (fun q => s.heap.size ≤ q)) {Z : State → Prop} (hX : va_X b Ln xs s s.heap) (hbl : b < s.heap.size) (hLn : Ln ≤ 3072) (hi : i + 6 ≤ Ln) (hk : k + 2 ≤ 600000) (hn : n + 6 ≤ 7302250) (hR : Rl hC hM) (K : ∀ hC' hM', Rl hC' hM' → zL p l e room_1 s m #[Value.ref b] below meth c D dA (fun q => s.heap.size ≤ q) Z (k + 2) (n + 6) 519 (ΦL b i) [] (lawH hC' hM')) : zL p l e room_1 s m #[Value.ref b] below meth c D dA (fun q => s.heap.size ≤ q) Z k n 92 (ΦL b i) [] (lawH hC hM) := by
  have hbA : ¬ (fun q => s.heap.size ≤ q) b := Nat.not_le.mpr hbl
  obtain ⟨hc, hm⟩ := rl_cls hR
  refine zl_aload O 0 d_law_92 phi_1 ?_
  refine zl_arg (j := 1) O hX hbl hbA hLn (by omega) (by decide) phi_03 d_law_93 d_law_94 d_law_95 d_law_96 d_law_97 ?_
  refine zl_arg (j := 2) O hX hbl hbA hLn (by omega) (by decide) phi_03 d_law_98 d_law_99 d_law_100 d_law_101 d_law_102 ?_
  refine zl_arg (j := 3) O hX hbl hbA hLn (by omega) (by decide) phi_03 d_law_103 d_law_104 d_law_105 d_law_106 d_law_107 ?_
  refine zl_arg (j := 4) O hX hbl hbA hLn (by omega) (by decide) phi_03 d_law_108 d_law_109 d_law_110 d_law_111 d_law_112 ?_
  refine zl_arg (j := 5) O hX hbl hbA hLn (by omega) (by decide) phi_03 d_law_113 d_law_114 d_law_115 d_law_116 d_law_117 ?_
  refine law_c O [.int (xs (i + 1)), .int (xs (i + 2)), .int (xs (i + 3)), .int (xs (i + 4)), .int (xs (i + 5))] c_law_13 k_Mov_crossing d_law_118 (by decide) rfl rfl hk hn (duo_crossing hR (xs (i + 1)) (xs (i + 2)) (xs (i + 3)) (xs (i + 4)) (xs (i + 5))) hc hm rfl (fun v h' hc' hD => ?_)
  refine zl_aload O 37 d_law_121 phi_2 ?_
  refine zl_arg (j := 1) O hX hbl hbA hLn (by omega) (by decide) phi_03 d_law_122 d_law_123 d_law_124 d_law_125 d_law_126 ?_
  refine zl_arg (j := 2) O hX hbl hbA hLn (by omega) (by decide) phi_03 d_law_127 d_law_128 d_law_129 d_law_130 d_law_131 ?_
  refine zl_arg (j := 3) O hX hbl hbA hLn (by omega) (by decide) phi_03 d_law_132 d_law_133 d_law_134 d_law_135 d_law_136 ?_
  refine zl_arg (j := 4) O hX hbl hbA hLn (by omega) (by decide) phi_03 d_law_137 d_law_138 d_law_139 d_law_140 d_law_141 ?_
  refine zl_arg (j := 5) O hX hbl hbA hLn (by omega) (by decide) phi_03 d_law_142 d_law_143 d_law_144 d_law_145 d_law_146 ?_
  refine law_m O [.int (xs (i + 1)), .int (xs (i + 2)), .int (xs (i + 3)), .int (xs (i + 4)), .int (xs (i + 5))] c_law_17 k_Mod_crossing d_law_147 (by decide) rfl rfl (by omega) (by omega) hD hc' hm rfl (fun h'' hR' => ?_)
  exact zl_same O 519 d_law_150 (by decide) (K _ _ hR')
set_option maxHeartbeats 1000000 in
theorem law_1 (O : zOK R_law code 4 ret room_1 p room_1 s m #[Value.ref b] meth c D dA (fun q => s.heap.size ≤ q)) {Z : State → Prop} (hX : va_X b Ln xs s s.heap) (hbl : b < s.heap.size) (hLn : Ln ≤ 3072) (hi : i + 6 ≤ Ln) (hk : k + 2 ≤ 600000) (hn : n + 6 ≤ 7302250) (hR : Rl hC hM) (K : ∀ hC' hM', Rl hC' hM' → zL p l e room_1 s m #[Value.ref b] below meth c D dA (fun q => s.heap.size ≤ q) Z (k + 2) (n + 6) 519 (ΦL b i) [] (lawH hC' hM')) : zL p l e room_1 s m #[Value.ref b] below meth c D dA (fun q => s.heap.size ≤ q) Z k n 155 (ΦL b i) [] (lawH hC hM) := by
  have hbA : ¬ (fun q => s.heap.size ≤ q) b := Nat.not_le.mpr hbl
  obtain ⟨hc, hm⟩ := rl_cls hR
  refine zl_aload O 0 d_law_155 phi_1 ?_
  refine zl_arg (j := 1) O hX hbl hbA hLn (by omega) (by decide) phi_03 d_law_156 d_law_157 d_law_158 d_law_159 d_law_160 ?_
  refine law_c O [.int (xs (i + 1))] c_law_18 k_Mov_check d_law_161 (by decide) rfl rfl hk hn (duo_check hR (xs (i + 1))) hc hm rfl (fun v h' hc' hD => ?_)
  refine zl_aload O 37 d_law_164 phi_2 ?_
  refine zl_arg (j := 1) O hX hbl hbA hLn (by omega) (by decide) phi_03 d_law_165 d_law_166 d_law_167 d_law_168 d_law_169 ?_
  refine law_m O [.int (xs (i + 1))] c_law_22 k_Mod_check d_law_170 (by decide) rfl rfl (by omega) (by omega) hD hc' hm rfl (fun h'' hR' => ?_)
  exact zl_same O 519 d_law_173 (by decide) (K _ _ hR')
set_option maxHeartbeats 1000000 in
theorem law_2 (O : zOK R_law code 4 ret room_1 p room_1 s m #[Value.ref b] meth c D dA (fun q => s.heap.size ≤ q)) {Z : State → Prop} (hX : va_X b Ln xs s s.heap) (hbl : b < s.heap.size) (hLn : Ln ≤ 3072) (hi : i + 6 ≤ Ln) (hk : k + 2 ≤ 600000) (hn : n + 6 ≤ 7302250) (hR : Rl hC hM) (K : ∀ hC' hM', Rl hC' hM' → zL p l e room_1 s m #[Value.ref b] below meth c D dA (fun q => s.heap.size ≤ q) Z (k + 2) (n + 6) 519 (ΦL b i) [] (lawH hC' hM')) : zL p l e room_1 s m #[Value.ref b] below meth c D dA (fun q => s.heap.size ≤ q) Z k n 178 (ΦL b i) [] (lawH hC hM) := by
  have hbA : ¬ (fun q => s.heap.size ≤ q) b := Nat.not_le.mpr hbl
  obtain ⟨hc, hm⟩ := rl_cls hR
  refine zl_aload O 0 d_law_178 phi_1 ?_
  refine zl_arg (j := 1) O hX hbl hbA hLn (by omega) (by decide) phi_03 d_law_179 d_law_180 d_law_181 d_law_182 d_law_183 ?_
  refine law_c O [.int (xs (i + 1))] c_law_23 k_Mov_many d_law_184 (by decide) rfl rfl hk hn (duo_many hR (xs (i + 1))) hc hm rfl (fun v h' hc' hD => ?_)
  refine zl_aload O 37 d_law_187 phi_2 ?_
  refine zl_arg (j := 1) O hX hbl hbA hLn (by omega) (by decide) phi_03 d_law_188 d_law_189 d_law_190 d_law_191 d_law_192 ?_
  refine law_m O [.int (xs (i + 1))] c_law_26 k_Mod_many d_law_193 (by decide) rfl rfl (by omega) (by omega) hD hc' hm rfl (fun h'' hR' => ?_)
  exact zl_same O 519 d_law_196 (by decide) (K _ _ hR')
set_option maxHeartbeats 1000000 in
theorem law_3 (O : zOK R_law code 4 ret room_1 p room_1 s m #[Value.ref b] meth c D dA (fun q => s.heap.size ≤ q)) {Z : State → Prop} (hX : va_X b Ln xs s s.heap) (hbl : b < s.heap.size) (hLn : Ln ≤ 3072) (hi : i + 6 ≤ Ln) (hk : k + 2 ≤ 600000) (hn : n + 6 ≤ 7302250) (hR : Rl hC hM) (K : ∀ hC' hM', Rl hC' hM' → zL p l e room_1 s m #[Value.ref b] below meth c D dA (fun q => s.heap.size ≤ q) Z (k + 2) (n + 6) 519 (ΦL b i) [] (lawH hC' hM')) : zL p l e room_1 s m #[Value.ref b] below meth c D dA (fun q => s.heap.size ≤ q) Z k n 201 (ΦL b i) [] (lawH hC hM) := by
  have hbA : ¬ (fun q => s.heap.size ≤ q) b := Nat.not_le.mpr hbl
  obtain ⟨hc, hm⟩ := rl_cls hR
  refine zl_aload O 0 d_law_201 phi_1 ?_
  refine zl_arg (j := 1) O hX hbl hbA hLn (by omega) (by decide) phi_03 d_law_202 d_law_203 d_law_204 d_law_205 d_law_206 ?_
  refine zl_arg (j := 2) O hX hbl hbA hLn (by omega) (by decide) phi_03 d_law_207 d_law_208 d_law_209 d_law_210 d_law_211 ?_
  refine law_c O [.int (xs (i + 1)), .int (xs (i + 2))] c_law_27 k_Mov_look d_law_212 (by decide) rfl rfl hk hn (duo_look hR (xs (i + 1)) (xs (i + 2))) hc hm rfl (fun v h' hc' hD => ?_)
  refine zl_aload O 37 d_law_215 phi_2 ?_
  refine zl_arg (j := 1) O hX hbl hbA hLn (by omega) (by decide) phi_03 d_law_216 d_law_217 d_law_218 d_law_219 d_law_220 ?_
  refine zl_arg (j := 2) O hX hbl hbA hLn (by omega) (by decide) phi_03 d_law_221 d_law_222 d_law_223 d_law_224 d_law_225 ?_
  refine law_m O [.int (xs (i + 1)), .int (xs (i + 2))] c_law_31 k_Mod_look d_law_226 (by decide) rfl rfl (by omega) (by omega) hD hc' hm rfl (fun h'' hR' => ?_)
  exact zl_same O 519 d_law_229 (by decide) (K _ _ hR')
set_option maxHeartbeats 1000000 in
theorem law_4 (O : zOK R_law code 4 ret room_1 p room_1 s m #[Value.ref b] meth c D dA (fun q => s.heap.size ≤ q)) {Z : State → Prop} (hX : va_X b Ln xs s s.heap) (hbl : b < s.heap.size) (hLn : Ln ≤ 3072) (hi : i + 6 ≤ Ln) (hk : k + 2 ≤ 600000) (hn : n + 6 ≤ 7302250) (hR : Rl hC hM) (K : ∀ hC' hM', Rl hC' hM' → zL p l e room_1 s m #[Value.ref b] below meth c D dA (fun q => s.heap.size ≤ q) Z (k + 2) (n + 6) 519 (ΦL b i) [] (lawH hC' hM')) : zL p l e room_1 s m #[Value.ref b] below meth c D dA (fun q => s.heap.size ≤ q) Z k n 234 (ΦL b i) [] (lawH hC hM) := by
  have hbA : ¬ (fun q => s.heap.size ≤ q) b := Nat.not_le.mpr hbl
  obtain ⟨hc, hm⟩ := rl_cls hR
  refine zl_aload O 0 d_law_234 phi_1 ?_
  refine zl_arg (j := 1) O hX hbl hbA hLn (by omega) (by decide) phi_03 d_law_235 d_law_236 d_law_237 d_law_238 d_law_239 ?_
  refine zl_arg (j := 2) O hX hbl hbA hLn (by omega) (by decide) phi_03 d_law_240 d_law_241 d_law_242 d_law_243 d_law_244 ?_
  refine law_c O [.int (xs (i + 1)), .int (xs (i + 2))] c_law_32 k_Mov_face d_law_245 (by decide) rfl rfl hk hn (duo_face hR (xs (i + 1)) (xs (i + 2))) hc hm rfl (fun v h' hc' hD => ?_)
  refine zl_aload O 37 d_law_248 phi_2 ?_
  refine zl_arg (j := 1) O hX hbl hbA hLn (by omega) (by decide) phi_03 d_law_249 d_law_250 d_law_251 d_law_252 d_law_253 ?_
  refine zl_arg (j := 2) O hX hbl hbA hLn (by omega) (by decide) phi_03 d_law_254 d_law_255 d_law_256 d_law_257 d_law_258 ?_
  refine law_m O [.int (xs (i + 1)), .int (xs (i + 2))] c_law_35 k_Mod_face d_law_259 (by decide) rfl rfl (by omega) (by omega) hD hc' hm rfl (fun h'' hR' => ?_)
  exact zl_same O 519 d_law_262 (by decide) (K _ _ hR')
set_option maxHeartbeats 1000000 in
theorem law_5 (O : zOK R_law code 4 ret room_1 p room_1 s m #[Value.ref b] meth c D dA (fun q => s.heap.size ≤ q)) {Z : State → Prop} (hX : va_X b Ln xs s s.heap) (hbl : b < s.heap.size) (hLn : Ln ≤ 3072) (hi : i + 6 ≤ Ln) (hk : k + 2 ≤ 600000) (hn : n + 6 ≤ 7302250) (hR : Rl hC hM) (K : ∀ hC' hM', Rl hC' hM' → zL p l e room_1 s m #[Value.ref b] below meth c D dA (fun q => s.heap.size ≤ q) Z (k + 2) (n + 6) 519 (ΦL b i) [] (lawH hC' hM')) : zL p l e room_1 s m #[Value.ref b] below meth c D dA (fun q => s.heap.size ≤ q) Z k n 267 (ΦL b i) [] (lawH hC hM) := by
  have hbA : ¬ (fun q => s.heap.size ≤ q) b := Nat.not_le.mpr hbl
  obtain ⟨hc, hm⟩ := rl_cls hR
  refine zl_aload O 0 d_law_267 phi_1 ?_
  refine zl_arg (j := 1) O hX hbl hbA hLn (by omega) (by decide) phi_03 d_law_268 d_law_269 d_law_270 d_law_271 d_law_272 ?_
  refine law_c O [.int (xs (i + 1))] c_law_36 k_Mov_pattern d_law_273 (by decide) rfl rfl hk hn (duo_pattern hR (xs (i + 1))) hc hm rfl (fun v h' hc' hD => ?_)
  refine zl_aload O 37 d_law_276 phi_2 ?_
  refine zl_arg (j := 1) O hX hbl hbA hLn (by omega) (by decide) phi_03 d_law_277 d_law_278 d_law_279 d_law_280 d_law_281 ?_
  refine law_m O [.int (xs (i + 1))] c_law_39 k_Mod_pattern d_law_282 (by decide) rfl rfl (by omega) (by omega) hD hc' hm rfl (fun h'' hR' => ?_)
  exact zl_same O 519 d_law_285 (by decide) (K _ _ hR')
set_option maxHeartbeats 1000000 in
theorem law_6 (O : zOK R_law code 4 ret room_1 p room_1 s m #[Value.ref b] meth c D dA (fun q => s.heap.size ≤ q)) {Z : State → Prop} (hX : va_X b Ln xs s s.heap) (hbl : b < s.heap.size) (hLn : Ln ≤ 3072) (hi : i + 6 ≤ Ln) (hk : k + 2 ≤ 600000) (hn : n + 6 ≤ 7302250) (hR : Rl hC hM) (K : ∀ hC' hM', Rl hC' hM' → zL p l e room_1 s m #[Value.ref b] below meth c D dA (fun q => s.heap.size ≤ q) Z (k + 2) (n + 6) 519 (ΦL b i) [] (lawH hC' hM')) : zL p l e room_1 s m #[Value.ref b] below meth c D dA (fun q => s.heap.size ≤ q) Z k n 290 (ΦL b i) [] (lawH hC hM) := by
  have hbA : ¬ (fun q => s.heap.size ≤ q) b := Nat.not_le.mpr hbl
  obtain ⟨hc, hm⟩ := rl_cls hR
  refine zl_aload O 0 d_law_290 phi_1 ?_
  refine zl_arg (j := 1) O hX hbl hbA hLn (by omega) (by decide) phi_03 d_law_291 d_law_292 d_law_293 d_law_294 d_law_295 ?_
  refine law_c O [.int (xs (i + 1))] c_law_40 k_Mov_undo d_law_296 (by decide) rfl rfl hk hn (duo_undo hR (xs (i + 1))) hc hm rfl (fun v h' hc' hD => ?_)
  refine zl_aload O 37 d_law_299 phi_2 ?_
  refine zl_arg (j := 1) O hX hbl hbA hLn (by omega) (by decide) phi_03 d_law_300 d_law_301 d_law_302 d_law_303 d_law_304 ?_
  refine law_m O [.int (xs (i + 1))] c_law_43 k_Mod_undo d_law_305 (by decide) rfl rfl (by omega) (by omega) hD hc' hm rfl (fun h'' hR' => ?_)
  exact zl_same O 519 d_law_308 (by decide) (K _ _ hR')
set_option maxHeartbeats 1000000 in
theorem law_7 (O : zOK R_law code 4 ret room_1 p room_1 s m #[Value.ref b] meth c D dA (fun q => s.heap.size ≤ q)) {Z : State → Prop} (hX : va_X b Ln xs s s.heap) (hbl : b < s.heap.size) (hLn : Ln ≤ 3072) (hi : i + 6 ≤ Ln) (hk : k + 2 ≤ 600000) (hn : n + 6 ≤ 7302250) (hR : Rl hC hM) (K : ∀ hC' hM', Rl hC' hM' → zL p l e room_1 s m #[Value.ref b] below meth c D dA (fun q => s.heap.size ≤ q) Z (k + 2) (n + 6) 519 (ΦL b i) [] (lawH hC' hM')) : zL p l e room_1 s m #[Value.ref b] below meth c D dA (fun q => s.heap.size ≤ q) Z k n 313 (ΦL b i) [] (lawH hC hM) := by
  have hbA : ¬ (fun q => s.heap.size ≤ q) b := Nat.not_le.mpr hbl
  obtain ⟨hc, hm⟩ := rl_cls hR
  refine zl_aload O 0 d_law_313 phi_1 ?_
  refine zl_arg (j := 1) O hX hbl hbA hLn (by omega) (by decide) phi_03 d_law_314 d_law_315 d_law_316 d_law_317 d_law_318 ?_
  refine law_c O [.int (xs (i + 1))] c_law_44 k_Mov_slide d_law_319 (by decide) rfl rfl hk hn (duo_slide hR (xs (i + 1))) hc hm rfl (fun v h' hc' hD => ?_)
  refine zl_aload O 37 d_law_322 phi_2 ?_
  refine zl_arg (j := 1) O hX hbl hbA hLn (by omega) (by decide) phi_03 d_law_323 d_law_324 d_law_325 d_law_326 d_law_327 ?_
  refine law_m O [.int (xs (i + 1))] c_law_48 k_Mod_slide d_law_328 (by decide) rfl rfl (by omega) (by omega) hD hc' hm rfl (fun h'' hR' => ?_)
  exact zl_same O 519 d_law_331 (by decide) (K _ _ hR')
set_option maxHeartbeats 1000000 in
theorem law_8 (O : zOK R_law code 4 ret room_1 p room_1 s m #[Value.ref b] meth c D dA (fun q => s.heap.size ≤ q)) {Z : State → Prop} (hX : va_X b Ln xs s s.heap) (hbl : b < s.heap.size) (hLn : Ln ≤ 3072) (hi : i + 6 ≤ Ln) (hk : k + 2 ≤ 600000) (hn : n + 6 ≤ 7302250) (hR : Rl hC hM) (K : ∀ hC' hM', Rl hC' hM' → zL p l e room_1 s m #[Value.ref b] below meth c D dA (fun q => s.heap.size ≤ q) Z (k + 2) (n + 6) 519 (ΦL b i) [] (lawH hC' hM')) : zL p l e room_1 s m #[Value.ref b] below meth c D dA (fun q => s.heap.size ≤ q) Z k n 336 (ΦL b i) [] (lawH hC hM) := by
  have hbA : ¬ (fun q => s.heap.size ≤ q) b := Nat.not_le.mpr hbl
  obtain ⟨hc, hm⟩ := rl_cls hR
  refine zl_aload O 0 d_law_336 phi_1 ?_
  refine zl_arg (j := 1) O hX hbl hbA hLn (by omega) (by decide) phi_03 d_law_337 d_law_338 d_law_339 d_law_340 d_law_341 ?_
  refine zl_arg (j := 2) O hX hbl hbA hLn (by omega) (by decide) phi_03 d_law_342 d_law_343 d_law_344 d_law_345 d_law_346 ?_
  refine zl_arg (j := 3) O hX hbl hbA hLn (by omega) (by decide) phi_03 d_law_347 d_law_348 d_law_349 d_law_350 d_law_351 ?_
  refine zl_bool O d_law_352 d_law_355 d_law_356 d_law_359 ?_
  refine law_c O [.int (xs (i + 1)), .int (xs (i + 2)), .int (bI (decide (¬ xs (i + 3) = 0)))] c_law_49 k_Mov_twist d_law_360 (by decide) rfl rfl hk hn (duo_twist hR (xs (i + 1)) (xs (i + 2)) (decide (¬ xs (i + 3) = 0))) hc hm rfl (fun v h' hc' hD => ?_)
  refine zl_aload O 37 d_law_363 phi_2 ?_
  refine zl_arg (j := 1) O hX hbl hbA hLn (by omega) (by decide) phi_03 d_law_364 d_law_365 d_law_366 d_law_367 d_law_368 ?_
  refine zl_arg (j := 2) O hX hbl hbA hLn (by omega) (by decide) phi_03 d_law_369 d_law_370 d_law_371 d_law_372 d_law_373 ?_
  refine zl_arg (j := 3) O hX hbl hbA hLn (by omega) (by decide) phi_03 d_law_374 d_law_375 d_law_376 d_law_377 d_law_378 ?_
  refine zl_bool O d_law_379 d_law_382 d_law_383 d_law_386 ?_
  refine law_m O [.int (xs (i + 1)), .int (xs (i + 2)), .int (bI (decide (¬ xs (i + 3) = 0)))] c_law_53 k_Mod_twist d_law_387 (by decide) rfl rfl (by omega) (by omega) hD hc' hm rfl (fun h'' hR' => ?_)
  exact zl_same O 519 d_law_390 (by decide) (K _ _ hR')
set_option maxHeartbeats 1000000 in
theorem law_9 (O : zOK R_law code 4 ret room_1 p room_1 s m #[Value.ref b] meth c D dA (fun q => s.heap.size ≤ q)) {Z : State → Prop} (hX : va_X b Ln xs s s.heap) (hbl : b < s.heap.size) (hLn : Ln ≤ 3072) (hi : i + 6 ≤ Ln) (hk : k + 2 ≤ 600000) (hn : n + 6 ≤ 7302250) (hR : Rl hC hM) (K : ∀ hC' hM', Rl hC' hM' → zL p l e room_1 s m #[Value.ref b] below meth c D dA (fun q => s.heap.size ≤ q) Z (k + 2) (n + 6) 519 (ΦL b i) [] (lawH hC' hM')) : zL p l e room_1 s m #[Value.ref b] below meth c D dA (fun q => s.heap.size ≤ q) Z k n 395 (ΦL b i) [] (lawH hC hM) := by
  have hbA : ¬ (fun q => s.heap.size ≤ q) b := Nat.not_le.mpr hbl
  obtain ⟨hc, hm⟩ := rl_cls hR
  refine zl_aload O 0 d_law_395 phi_1 ?_
  refine zl_arg (j := 1) O hX hbl hbA hLn (by omega) (by decide) phi_03 d_law_396 d_law_397 d_law_398 d_law_399 d_law_400 ?_
  refine zl_arg (j := 2) O hX hbl hbA hLn (by omega) (by decide) phi_03 d_law_401 d_law_402 d_law_403 d_law_404 d_law_405 ?_
  refine zl_bool O d_law_406 d_law_409 d_law_410 d_law_413 ?_
  refine zl_arg (j := 3) O hX hbl hbA hLn (by omega) (by decide) phi_03 d_law_414 d_law_415 d_law_416 d_law_417 d_law_418 ?_
  refine zl_arg (j := 4) O hX hbl hbA hLn (by omega) (by decide) phi_03 d_law_419 d_law_420 d_law_421 d_law_422 d_law_423 ?_
  refine zl_bool O d_law_424 d_law_427 d_law_428 d_law_431 ?_
  refine zl_arg (j := 5) O hX hbl hbA hLn (by omega) (by decide) phi_03 d_law_432 d_law_433 d_law_434 d_law_435 d_law_436 ?_
  refine zl_bool O d_law_437 d_law_440 d_law_441 d_law_444 ?_
  refine law_c O [.int (xs (i + 1)), .int (bI (decide (¬ xs (i + 2) = 0))), .int (xs (i + 3)), .int (bI (decide (¬ xs (i + 4) = 0))), .int (bI (decide (¬ xs (i + 5) = 0)))] c_law_54 k_Mov_push d_law_445 (by decide) rfl rfl hk hn (duo_push hR (xs (i + 1)) (xs (i + 3)) (decide (¬ xs (i + 2) = 0)) (decide (¬ xs (i + 4) = 0)) (decide (¬ xs (i + 5) = 0))) hc hm rfl (fun v h' hc' hD => ?_)
  refine zl_aload O 37 d_law_448 phi_2 ?_
  refine zl_arg (j := 1) O hX hbl hbA hLn (by omega) (by decide) phi_03 d_law_449 d_law_450 d_law_451 d_law_452 d_law_453 ?_
  refine zl_arg (j := 2) O hX hbl hbA hLn (by omega) (by decide) phi_03 d_law_454 d_law_455 d_law_456 d_law_457 d_law_458 ?_
  refine zl_bool O d_law_459 d_law_462 d_law_463 d_law_466 ?_
  refine zl_arg (j := 3) O hX hbl hbA hLn (by omega) (by decide) phi_03 d_law_467 d_law_468 d_law_469 d_law_470 d_law_471 ?_
  refine zl_arg (j := 4) O hX hbl hbA hLn (by omega) (by decide) phi_03 d_law_472 d_law_473 d_law_474 d_law_475 d_law_476 ?_
  refine zl_bool O d_law_477 d_law_480 d_law_481 d_law_484 ?_
  refine zl_arg (j := 5) O hX hbl hbA hLn (by omega) (by decide) phi_03 d_law_485 d_law_486 d_law_487 d_law_488 d_law_489 ?_
  refine zl_bool O d_law_490 d_law_493 d_law_494 d_law_497 ?_
  refine law_m O [.int (xs (i + 1)), .int (bI (decide (¬ xs (i + 2) = 0))), .int (xs (i + 3)), .int (bI (decide (¬ xs (i + 4) = 0))), .int (bI (decide (¬ xs (i + 5) = 0)))] c_law_58 k_Mod_push d_law_498 (by decide) rfl rfl (by omega) (by omega) hD hc' hm rfl (fun h'' hR' => ?_)
  exact zl_same O 519 d_law_501 (by decide) (K _ _ hR')
set_option maxHeartbeats 1000000 in
theorem law_10 (O : zOK R_law code 4 ret room_1 p room_1 s m #[Value.ref b] meth c D dA (fun q => s.heap.size ≤ q)) {Z : State → Prop} (hX : va_X b Ln xs s s.heap) (hbl : b < s.heap.size) (hLn : Ln ≤ 3072) (hi : i + 6 ≤ Ln) (hk : k + 2 ≤ 600000) (hn : n + 6 ≤ 7302250) (hR : Rl hC hM) (K : ∀ hC' hM', Rl hC' hM' → zL p l e room_1 s m #[Value.ref b] below meth c D dA (fun q => s.heap.size ≤ q) Z (k + 2) (n + 6) 519 (ΦL b i) [] (lawH hC' hM')) : zL p l e room_1 s m #[Value.ref b] below meth c D dA (fun q => s.heap.size ≤ q) Z k n 506 (ΦL b i) [] (lawH hC hM) := by
  have hbA : ¬ (fun q => s.heap.size ≤ q) b := Nat.not_le.mpr hbl
  obtain ⟨hc, hm⟩ := rl_cls hR
  refine zl_aload O 0 d_law_506 phi_1 ?_
  refine law_c O [] c_law_59 k_Mov_simplify d_law_507 (by decide) rfl rfl hk hn (duo_simplify hR) hc hm rfl (fun v h' hc' hD => ?_)
  refine zl_aload O 37 d_law_510 phi_2 ?_
  refine law_m O [] c_law_63 k_Mod_simplify d_law_511 (by decide) rfl rfl (by omega) (by omega) hD hc' hm rfl (fun h'' hR' => ?_)
  exact zl_same O 519 d_law_514 (by decide) (K _ _ hR')
theorem out11 {x : Int32} (h : ∀ j, j < 11 → ¬ x = nI j) : x.toInt < 0 ∨ 10 < x.toInt := by
  refine Classical.byContradiction (fun z => ?_)
  refine h x.toInt.toNat (by omega) ?_
  apply Int32.toInt_inj.mp
  rw [nI_toInt (by omega)]
  omega
theorem lw_gt {L t : Nat} (hL : L ≤ 3072) (ht : t ≤ 4000) : Int32.ofNat L - nI 6 < nI t ↔ L < t + 6 := by
  rw [Int32.lt_iff_toInt_lt, nI_toInt (by omega), Int32.toInt_sub, nI_toInt (by omega), show (Int32.ofNat L).toInt = (L : Int) from nI_toInt (by omega)]
  rw [Int.bmod_eq_of_le (by omega) (by omega)]
  omega
/-- the loop's head: past the end -/
theorem law_end (O : zOK R_law code 4 ret room_1 p room_1 s m #[Value.ref b] meth c D dA (fun q => s.heap.size ≤ q)) (hX : va_X b Ln xs s s.heap) (hbl : b < s.heap.size) (hLn : Ln ≤ 3072) (t : Nat) (hgo : Ln < 6 * t + 6) (ht : 6 * t ≤ 4000) (hC hM : List zE) : zL p l e room_1 s m #[Value.ref b] below meth c D dA (fun q => s.heap.size ≤ q) (lw_Z below #[Value.ref b] s) (100 + 2 * t) (3000 + 6 * t) 18 (ΦL b (6 * t)) [] (lawH hC hM) := by
  have hbA : ¬ (fun q => s.heap.size ≤ q) b := Nat.not_le.mpr hbl
  intro ad H locs L h2 h3 h4 h5
  refine lv_iload_n O.2.1 O.2.2.1 d_law_18 rfl (lv_at h2 3 rfl) ?_
  refine lv_aload_n O.2.1 O.2.2.1 d_law_19 rfl (lv_at h2 0 rfl) ?_
  refine va_slen O.2.1 O.2.2.1 hX hbl hbA h5 d_law_20 ?_
  refine lv_bipush (v := nI 6) O.2.1 O.2.2.1 d_law_21 (by decide) ?_
  refine lv_isub O.2.1 O.2.2.1 d_law_23 ?_
  refine lv_icmp_gt (tgt := 525) O.2.1 O.2.2.1 d_law_24 (by decide) (fun z => ?_) (fun z => absurd ((lw_gt hLn ht).mpr hgo) z)
  refine lv_iconst (v := 1) O.2.1 O.2.2.1 d_law_525 (by decide) ?_
  refine va_forget (fun q hq => h5.2.2 q hq) ?_
  refine W.widen (k := 600000) (n := 7302250) (by omega) (by omega) ?_
  exact lw_ret O.2.1 O.2.2.1 O.2.2.2.2.2.2.1 O.2.2.2.2.2.2.2.1 d_law_526
/-- the loop's head: one call more -/
theorem law_head (O : zOK R_law code 4 ret room_1 p room_1 s m #[Value.ref b] meth c D dA (fun q => s.heap.size ≤ q)) {Z : State → Prop} (hX : va_X b Ln xs s s.heap) (hbl : b < s.heap.size) (hLn : Ln ≤ 3072) (t : Nat) (hgo : ¬ Ln < 6 * t + 6) (ht : 6 * t ≤ 4000) (hC hM : List zE) (K : zL p l e room_1 s m #[Value.ref b] below meth c D dA (fun q => s.heap.size ≤ q) Z k n 27 (ΦL b (6 * t)) [] (lawH hC hM)) : zL p l e room_1 s m #[Value.ref b] below meth c D dA (fun q => s.heap.size ≤ q) Z k n 18 (ΦL b (6 * t)) [] (lawH hC hM) := by
  have hbA : ¬ (fun q => s.heap.size ≤ q) b := Nat.not_le.mpr hbl
  intro ad H locs L h2 h3 h4 h5
  refine lv_iload_n O.2.1 O.2.2.1 d_law_18 rfl (lv_at h2 3 rfl) ?_
  refine lv_aload_n O.2.1 O.2.2.1 d_law_19 rfl (lv_at h2 0 rfl) ?_
  refine va_slen O.2.1 O.2.2.1 hX hbl hbA h5 d_law_20 ?_
  refine lv_bipush (v := nI 6) O.2.1 O.2.2.1 d_law_21 (by decide) ?_
  refine lv_isub O.2.1 O.2.2.1 d_law_23 ?_
  refine lv_icmp_gt (tgt := 525) O.2.1 O.2.2.1 d_law_24 (by decide) (fun z => absurd ((lw_gt hLn ht).mp z) hgo) (fun z => ?_)
  exact K ad H locs L h2 h3 h4 h5
set_option maxHeartbeats 2000000 in
theorem law_loop (O : zOK R_law code 4 ret room_1 p room_1 s m #[Value.ref b] meth c D dA (fun q => s.heap.size ≤ q)) (hX : va_X b Ln xs s s.heap) (hbl : b < s.heap.size) (hLn : Ln ≤ 3072) : ∀ (f t : Nat), Ln ≤ f + 6 * t → 6 * t ≤ Ln → ∀ (hC hM : List zE), Rl hC hM → zL p l e room_1 s m #[Value.ref b] below meth c D dA (fun q => s.heap.size ≤ q) (lw_Z below #[Value.ref b] s) (100 + 2 * t) (3000 + 6 * t) 18 (ΦL b (6 * t)) [] (lawH hC hM) := by
  intro f
  induction f with
  | zero =>
    intro t h1 h2 hC hM hR
    exact law_end O hX hbl hLn t (by omega) (by omega) hC hM
  | succ f ih =>
    intro t h1 h2 hC hM hR
    by_cases hgo : Ln < 6 * t + 6
    · exact law_end O hX hbl hLn t hgo (by omega) hC hM
    · have hbA : ¬ (fun q => s.heap.size ≤ q) b := Nat.not_le.mpr hbl
      have back : ∀ hC' hM', Rl hC' hM' → zL p l e room_1 s m #[Value.ref b] below meth c D dA (fun q => s.heap.size ≤ q) (lw_Z below #[Value.ref b] s) (100 + 2 * t + 2) (3000 + 6 * t + 6) 519 (ΦL b (6 * t)) [] (lawH hC' hM') := by
        intro hC' hM' hR'
        have := ih (t + 1) (by omega) (by omega) hC' hM' hR'
        intro ad H locs L h2 h3 h4 h5
        refine lv_iinc (k := 3) (v := nI (6 * t + 6)) (lv' := [(3, .int (nI (6 * t + 6))), (0, .ref b), (1, .ref (ad 0)), (2, .ref (ad 37))]) O.2.1 O.2.2.1 d_law_519 h2 rfl (nI_add (6 * t) 6) (by decide) rfl (fun L' hl => ?_)
        refine lv_goto (tgt := 18) O.2.1 O.2.2.1 d_law_522 (by decide) ?_
        exact this ad H locs L' (lv_sub hl [1, 2, 3, 0] rfl) h3 h4 h5
      refine law_head O hX hbl hLn t hgo (by omega) hC hM ?_
      refine zl_arg0 O hX hbl hbA hLn (by omega) phi_03 d_law_27 d_law_28 d_law_29 d_law_30 d_law_32 ?_
      generalize xs (6 * t) &&& 15 = y
      by_cases c0 : y = nI 0
      · subst c0
        refine zl_tableIn O 92 d_law_33 (by decide) (by decide) rfl (by decide) ?_
        exact law_0 O hX hbl hLn (by omega) (by omega) (by omega) hR back
      by_cases c1 : y = nI 1
      · subst c1
        refine zl_tableIn O 155 d_law_33 (by decide) (by decide) rfl (by decide) ?_
        exact law_1 O hX hbl hLn (by omega) (by omega) (by omega) hR back
      by_cases c2 : y = nI 2
      · subst c2
        refine zl_tableIn O 178 d_law_33 (by decide) (by decide) rfl (by decide) ?_
        exact law_2 O hX hbl hLn (by omega) (by omega) (by omega) hR back
      by_cases c3 : y = nI 3
      · subst c3
        refine zl_tableIn O 201 d_law_33 (by decide) (by decide) rfl (by decide) ?_
        exact law_3 O hX hbl hLn (by omega) (by omega) (by omega) hR back
      by_cases c4 : y = nI 4
      · subst c4
        refine zl_tableIn O 234 d_law_33 (by decide) (by decide) rfl (by decide) ?_
        exact law_4 O hX hbl hLn (by omega) (by omega) (by omega) hR back
      by_cases c5 : y = nI 5
      · subst c5
        refine zl_tableIn O 267 d_law_33 (by decide) (by decide) rfl (by decide) ?_
        exact law_5 O hX hbl hLn (by omega) (by omega) (by omega) hR back
      by_cases c6 : y = nI 6
      · subst c6
        refine zl_tableIn O 290 d_law_33 (by decide) (by decide) rfl (by decide) ?_
        exact law_6 O hX hbl hLn (by omega) (by omega) (by omega) hR back
      by_cases c7 : y = nI 7
      · subst c7
        refine zl_tableIn O 313 d_law_33 (by decide) (by decide) rfl (by decide) ?_
        exact law_7 O hX hbl hLn (by omega) (by omega) (by omega) hR back
      by_cases c8 : y = nI 8
      · subst c8
        refine zl_tableIn O 336 d_law_33 (by decide) (by decide) rfl (by decide) ?_
        exact law_8 O hX hbl hLn (by omega) (by omega) (by omega) hR back
      by_cases c9 : y = nI 9
      · subst c9
        refine zl_tableIn O 395 d_law_33 (by decide) (by decide) rfl (by decide) ?_
        exact law_9 O hX hbl hLn (by omega) (by omega) (by omega) hR back
      by_cases c10 : y = nI 10
      · subst c10
        refine zl_tableIn O 506 d_law_33 (by decide) (by decide) rfl (by decide) ?_
        exact law_10 O hX hbl hLn (by omega) (by omega) (by omega) hR back
      refine zl_tableOut O 519 d_law_33 (out11 (fun j hj z => ?_)) (by decide) ?_
      · rcases (by omega : j = 0 ∨ j = 1 ∨ j = 2 ∨ j = 3 ∨ j = 4 ∨ j = 5 ∨ j = 6 ∨ j = 7 ∨ j = 8 ∨ j = 9 ∨ j = 10) with rfl | rfl | rfl | rfl | rfl | rfl | rfl | rfl | rfl | rfl | rfl
        · exact c0 z
        · exact c1 z
        · exact c2 z
        · exact c3 z
        · exact c4 z
        · exact c5 z
        · exact c6 z
        · exact c7 z
        · exact c8 z
        · exact c9 z
        · exact c10 z
      · exact zl_widen (by omega) (by omega) (back hC hM hR)
end
