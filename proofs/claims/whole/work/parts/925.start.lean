/-! from the law's entry to its loop -/
set_option maxHeartbeats 4000000 in
theorem whole_start {p : Program} {e : Env} {s : State} {m : MethodId} {below : List Frame} {meth : Method} {c : Code} (l : Launch) {b L : Nat} {xs : Nat → Int32} (hL : L ≤ 3072) (C0 : lw_At p s m meth c b L xs) : W p l e room_1 s m #[Value.ref b] below meth c s.heap [] 0 0 (lw_Z below #[Value.ref b] s) (entryFrame m ([Value.ref b] : List Value).toArray 4) := by
  obtain ⟨hx, hb, hr, hml, hown, hts, hX, hbl, hlocks, hgv⟩ := id C0
  have hz : ∀ w ∈ zt, w.before #[Value.ref b] s = true := fun w hw => hts w (zt_in hw)
  obtain ⟨c0, iS0, hKn0⟩ := u_known (C := R_Mov) (T := F_Mov) (N := 2) (n := 2) hz i_Mov (hz _ z_in_Mov)
  obtain ⟨c1, iS1, hKn1⟩ := u_known (C := R_Dia) (T := F_Dia) (N := 6) (n := 6) hz i_Dia (hz _ z_in_Dia)
  obtain ⟨c2, iS2, hKn2⟩ := u_known (C := R_Row) (T := F_Row) (N := 3) (n := 3) hz i_Row (hz _ z_in_Row)
  obtain ⟨c3, iS3, hKn3⟩ := u_known (C := R_Edg) (T := F_Edg) (N := 6) (n := 6) hz i_Edg (hz _ z_in_Edg)
  obtain ⟨c4, iS4, hKn4⟩ := u_known (C := R_Fac) (T := F_Fac) (N := 4) (n := 4) hz i_Fac (hz _ z_in_Fac)
  obtain ⟨c5, iS5, hKn5⟩ := u_known (C := R_Pie) (T := F_Pie) (N := 4) (n := 4) hz i_Pie (hz _ z_in_Pie)
  obtain ⟨c6, iS6, hKn6⟩ := u_known (C := R_Cut) (T := F_Cut) (N := 3) (n := 3) hz i_Cut (hz _ z_in_Cut)
  obtain ⟨c7, iS7, hKn7⟩ := u_known (C := R_Mod) (T := F_Mod) (N := 25) (n := 25) hz i_Mod (hz _ z_in_Mod)
  obtain ⟨dC, dI, hKc⟩ : ∃ (dC : Nat → ClassId) (dI : Nat → Nat → Nat), ∀ (k : Nat) (q : vw_C), vwCl[k]? = some q → u_Kn s q.1 q.2.1 q.2.2 (dC k) (dI k) := by
    refine ⟨fun k => if k = 0 then c0 else if k = 1 then c1 else if k = 2 then c2 else if k = 3 then c3 else if k = 4 then c4 else if k = 5 then c5 else if k = 6 then c6 else c7, fun k => if k = 0 then iS0 else if k = 1 then iS1 else if k = 2 then iS2 else if k = 3 then iS3 else if k = 4 then iS4 else if k = 5 then iS5 else if k = 6 then iS6 else iS7, ?_⟩
    intro k q hq
    match k, hq with
    | 0, hq => cases hq; exact hKn0
    | 1, hq => cases hq; exact hKn1
    | 2, hq => cases hq; exact hKn2
    | 3, hq => cases hq; exact hKn3
    | 4, hq => cases hq; exact hKn4
    | 5, hq => cases hq; exact hKn5
    | 6, hq => cases hq; exact hKn6
    | 7, hq => cases hq; exact hKn7
    | k + 8, hq => simp [vwCl] at hq
  obtain ⟨cA, kA, comp, a1, a2, a3⟩ := Cond.arrayClass_spec (hz _ z_ar)
  have hK : va_K (dC, dI) vwCl (ztys (fun _ => cA)) s := ⟨hKc, fun k q hk => by
    match k, hk with
    | 0, hk => cases hk; exact ⟨fun n z => ⟨fun k h => (by cases h), kA, a2, comp, a3⟩, a1⟩
    | k + 1, hk => simp [ztys] at hk⟩
  have hN : zNst s := fun q hq => va_Nw.of rfl (hts _ (zNs_in q hq))
  have O : zOK R_law code 4 ret room_1 p room_1 s m #[Value.ref b] meth c (dC, dI) (fun _ => cA) (fun q => s.heap.size ≤ q) := ⟨rfl, hx, hb, hml, hown, hz, hr, hlocks, hK, fun q h => h, hN⟩
  have s3 : ∀ hM, Mdl 0 (fun _ => 0) z0 0 (fun _ => 0) z0 0 hM → zL p l e room_1 s m #[Value.ref b] below meth c (dC, dI) (fun _ => cA) (fun q => s.heap.size ≤ q) (lw_Z below #[Value.ref b] s) 52 2323 15 (fun f L => lv_has L 4 [(1, .ref (f 0)), (0, .ref b)]) [.ref 37] (lawH (movH 1 19 dia0 dia0) hM) := by
    intro hM hm
    have hl := law_loop (l := l) (e := e) (below := below) O hX hbl hL L 0 (by omega) (by omega) (movH 1 19 dia0 dia0) hM ⟨0, _, _, _, _, _, _, _, _, 0, _, _, _, Or.inl ⟨dia0, dia0, dia_0, dr_0, rfl⟩, hm⟩
    refine zl_widen (k' := 100 + 2 * 0) (n' := 3000 + 6 * 0) (by omega) (by omega) ?_
    intro ad H locs L0 h2 h3 h4 h5
    refine lv_astore_n (lv' := [(2, .ref (ad 37)), (1, .ref (ad 0)), (0, .ref b)]) O.2.1 O.2.2.1 d_law_15 rfl h2 (by decide) rfl (fun L1 h2 => ?_)
    refine lv_iconst (v := nI 0) O.2.1 O.2.2.1 d_law_16 (by decide) ?_
    refine lv_istore_n (lv' := [(3, .int (nI 0)), (2, .ref (ad 37)), (1, .ref (ad 0)), (0, .ref b)]) O.2.1 O.2.2.1 d_law_17 rfl h2 (by decide) rfl (fun L2 h2 => ?_)
    exact hl ad H locs L2 (lv_sub h2 [3, 2, 1, 0] rfl) h3 h4 h5
  have s2 : zL p l e room_1 s m #[Value.ref b] below meth c (dC, dI) (fun _ => cA) (fun q => s.heap.size ≤ q) (lw_Z below #[Value.ref b] s) 37 1570 8 (fun f L => lv_has L 4 [(1, .ref (f 0)), (0, .ref b)]) [] (movH 1 19 dia0 dia0) := by
    refine zl_new (ci := 7) (fs := [.int 0, .int 0, .int 0, .null, .null, .int 0, .int 0, .int 0, .int 0, .null, .null, .null, .null, .int 0, .null, .null, .null, .int 0, .int 0, .null, .null, .int 0, .null, .null, .null]) (ty := t_Mod) O d_law_8 rfl i_Mod t_Mod_ok w_law_10 z_in_Mod z_ini_Mod (by decide) rfl (Nat.le_of_ble_eq_true rfl) (Nat.le_of_ble_eq_true rfl) rfl (fun f g L hfg h => ?_) rfl ?_
    · rw [← hfg 0 (Nat.le_of_ble_eq_true rfl)]
      exact h
    refine zl_dup O d_law_11 rfl ?_
    refine zl_callI (nL := 4) (fun f L h => h.1) O [37] c_law_12 k_Mod_init m_Mod_init d_law_12 ⟨(Nat.le_of_ble_eq_true rfl), (Nat.le_of_ble_eq_true rfl)⟩ ⟨(Nat.le_of_ble_eq_true rfl), (Nat.le_of_ble_eq_true rfl)⟩ rfl (Nat.le_of_ble_eq_true rfl) rfl rfl rfl (fun f g L hfg h => ?_) rfl rfl (fun r h' hq _ => ?_)
    · rw [← hfg 0 (Nat.le_of_ble_eq_true rfl)]
      exact h
    · obtain ⟨rfl, hm⟩ := hq
      have hm1 := hm
      obtain ⟨wrong, pS, pL, oN, oC, S, L', oS, oL, labs, row, fresh, piece, closed, faces, comp, fof, sides, side, free, arnd, rfl, -⟩ := hm1
      exact zl_st (st' := [.ref 37]) rfl (zl_h (h' := lawH (movH 1 19 dia0 dia0) _) rfl (s3 _ hm))
  have s1 : zL p l e room_1 s m #[Value.ref b] below meth c (dC, dI) (fun _ => cA) (fun q => s.heap.size ≤ q) (lw_Z below #[Value.ref b] s) 0 0 0 (fun f L => lv_has L 4 [(0, .ref b)]) [] [] := by
    refine zl_new (ci := 0) (fs := [.null, .null]) (ty := t_Mov) O d_law_0 rfl i_Mov t_Mov_ok w_law_7 z_in_Mov z_ini_Mov (by decide) rfl (Nat.le_of_ble_eq_true rfl) (Nat.le_of_ble_eq_true rfl) rfl (fun f g L hfg h => h) rfl ?_
    refine zl_dup O d_law_3 rfl ?_
    refine zl_callI (nL := 4) (fun f L h => h.1) O [0] c_law_9 k_Mov_init m_Mov_init d_law_4 ⟨(Nat.le_of_ble_eq_true rfl), (Nat.le_of_ble_eq_true rfl)⟩ ⟨(Nat.le_of_ble_eq_true rfl), (Nat.le_of_ble_eq_true rfl)⟩ rfl (Nat.le_of_ble_eq_true rfl) rfl rfl rfl (fun f g L hfg h => h) rfl rfl (fun r h' hq _ => ?_)
    obtain ⟨rfl, rfl⟩ := hq
    refine zl_st (st' := [.ref 0]) rfl (zl_h (h' := movH 1 19 dia0 dia0) rfl ?_)
    intro ad H locs L0 h2 h3 h4 h5
    refine lv_astore_n (lv' := [(1, .ref (ad 0)), (0, .ref b)]) O.2.1 O.2.2.1 d_law_7 rfl h2 (by decide) rfl (fun L1 h2 => ?_)
    exact s2 ad H locs L1 h2 h3 h4 h5
  have hl := lv_entry ([.ref b]) (n := 4) (Nat.le_of_ble_eq_true rfl)
  rw [lg_entry_eq]
  exact s1 (fun _ => 0) s.heap [] _ hl (fun k q h => by simp [zw] at h) ⟨fun i j p q h => by simp [zw] at h, fun k q h => by simp [zw] at h⟩ va_S.rf
