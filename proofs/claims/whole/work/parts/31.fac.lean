/-! Arrays.fill; the darts' permutation; Faces -/
theorem m_Arr_fill (N : Nat) (f : Nat → Int32) (v : Int32) (hN : N ≤ 1000) : zMet y_Arr_fill b_Arr_fill 4 none ⟨0, 0, 0, 0⟩ [.ref 0, .int v] [za N f] (fun r h' => r = none ∧ h' = [za N (fun _ => v)]) := by
  refine zMet_of (by decide +kernel) rfl (Nat.le_of_ble_eq_true rfl) (fun z1 z2 z3 z4 z5 z6 z7 z8 z9 z10 z11 z12 z13 z14 O hin => ?_)
  refine zi_ls (ls' := [some (.ref 0), some (.int v), none, none]) rfl ?_
  refine zi_iconstN O 0 d_Arr_fill_0 (by decide) ?_
  refine zi_istore_n (ls' := _ :: _ :: some _ :: _) O d_Arr_fill_1 rfl (by decide) rfl ?_
  refine zi_aload_n O d_Arr_fill_2 rfl ?_
  refine zi_alen O d_Arr_fill_3 rfl ?_
  refine zi_istore_n (ls' := _ :: _ :: _ :: some _ :: _) O d_Arr_fill_4 rfl (by decide) rfl ?_
  refine zi_for (fun i => [some (.ref 0), some (.int v), some (.int (nI i)), some (.int (nI N))]) (fun i => [za N (fun j => if j < i then v else f j)]) 0 N (by omega) rfl (by simp) (fun i _ hi ih => ?_) ?_
  · refine zi_iload_n O d_Arr_fill_5 rfl ?_
    refine zi_iload_n O d_Arr_fill_6 rfl ?_
    refine zi_icmp_geN O 20 d_Arr_fill_7 (by decide) (by omega) (by omega) (fun c7 => ?_) (fun c7 => ?_)
    · omega
    · refine zi_aload_n O d_Arr_fill_10 rfl ?_
      refine zi_iload_n O d_Arr_fill_11 rfl ?_
      refine zi_iload_n O d_Arr_fill_12 rfl ?_
      refine zi_iast O d_Arr_fill_13 rfl rfl (by omega) (by omega) (by dsimp only [List.set]) ?_
      refine zi_iincN (ls' := _ :: _ :: some _ :: _) O 1 d_Arr_fill_14 rfl (by decide) rfl (by decide) rfl ?_
      refine zi_goto O 5 d_Arr_fill_17 (by decide) ?_
      have e : upd (fun j => if j < i then v else f j) i v = fun j => if j < i + 1 then v else f j := by
        funext j
        unfold upd
        by_cases c : j = i
        · rw [if_pos c, if_pos (by omega)]
        · rw [if_neg c]
          dsimp only
          by_cases c2 : j < i
          · rw [if_pos c2, if_pos (by omega)]
          · rw [if_neg c2, if_neg (by omega)]
      rw [e]
      exact ih
  · refine zi_iload_n O d_Arr_fill_5 rfl ?_
    refine zi_iload_n O d_Arr_fill_6 rfl ?_
    refine zi_icmp_geN O 20 d_Arr_fill_7 (by decide) (by omega) (by omega) (fun c7 => ?_) (fun c7 => ?_)
    · refine zi_arr 0 (fun _ => v) rfl (fun j hj => by rw [if_pos hj]) (by dsimp only [List.set]) ?_
      refine zi_vret O d_Arr_fill_20 (Nat.le_of_ble_eq_true rfl) (Nat.le_of_ble_eq_true rfl) (Nat.le_of_ble_eq_true rfl) ?_
      exact ⟨rfl, rfl⟩
    · omega
theorem rot_inj : ∀ a, a < 80 → ∀ b, b < 80 → 4 * (a / 4) + (a + 3) % 4 = 4 * (b / 4) + (b + 3) % 4 → a = b := by
  intro a _ b _ h
  omega
/-- where a dart arrives; the next dart of its face -/
def ar (fr to_ : Nat → Nat) (d : Nat) : Nat := if d % 2 = 0 then to_ (d / 2) else fr (d / 2)
def rot (q : Nat) : Nat := 4 * (q / 4) + (q + 3) % 4
def lv (fr at_ : Nat → Nat) (q : Nat) : Nat := if fr (at_ q) = q then 2 * at_ q else 2 * at_ q + 1
def nxD (fr to_ at_ : Nat → Nat) (d : Nat) : Nat := lv fr at_ (rot (ar fr to_ d))
theorem ed_inj {n : Nat} {lab : Nat → Nat} {S : Nat → Int32} {el fr to_ at_ : Nat → Nat} (h : Ed n lab S el fr to_ at_) {i j : Nat} (hi : i < 2 * n) (hj : j < 2 * n) (he : el i = el j) : i = j := by
  rcases Nat.lt_trichotomy i j with c | c | c
  · have := h.2.1 i j c hj; omega
  · exact c
  · have := h.2.1 j i c hi; omega
theorem ed_lab {n : Nat} {lab : Nat → Nat} {S : Nat → Int32} {el fr to_ at_ : Nat → Nat} (h : Ed n lab S el fr to_ at_) {q : Nat} (hq : q < 4 * n) : el (at_ q) = lab q := by
  obtain ⟨a1, a2⟩ := h.2.2 q hq
  obtain ⟨b1, b2, b3, b4, b5, b6⟩ := h.1 _ a1
  rcases a2 with a2 | a2
  · exact (congrArg lab a2).trans b3 |>.symm
  · exact (congrArg lab a2).trans b4 |>.symm
theorem ed_at_fr {n : Nat} {lab : Nat → Nat} {S : Nat → Int32} {el fr to_ at_ : Nat → Nat} (h : Ed n lab S el fr to_ at_) {e : Nat} (he : e < 2 * n) : at_ (fr e) = e := by
  obtain ⟨b1, b2, b3, b4, b5, b6⟩ := h.1 _ he
  exact ed_inj h (h.2.2 _ b1).1 he ((ed_lab h b1).trans b3)
theorem ed_at_to {n : Nat} {lab : Nat → Nat} {S : Nat → Int32} {el fr to_ at_ : Nat → Nat} (h : Ed n lab S el fr to_ at_) {e : Nat} (he : e < 2 * n) : at_ (to_ e) = e := by
  obtain ⟨b1, b2, b3, b4, b5, b6⟩ := h.1 _ he
  exact ed_inj h (h.2.2 _ b2).1 he ((ed_lab h b2).trans b4)
theorem ed_ne {n : Nat} {lab : Nat → Nat} {S : Nat → Int32} {el fr to_ at_ : Nat → Nat} (h : Ed n lab S el fr to_ at_) {i j : Nat} (hi : i < 2 * n) (hj : j < 2 * n) : fr i ≠ to_ j := by
  intro z
  exact (h.1 i hi).2.2.2.2.1 (by rw [z]; exact (h.1 j hj).2.2.2.2.2)
theorem ar_lt {n : Nat} {lab : Nat → Nat} {S : Nat → Int32} {el fr to_ at_ : Nat → Nat} (h : Ed n lab S el fr to_ at_) {d : Nat} (hd : d < 4 * n) : ar fr to_ d < 4 * n := by
  unfold ar
  split
  · exact (h.1 (d / 2) (by omega)).2.1
  · exact (h.1 (d / 2) (by omega)).1
theorem ar_inj {n : Nat} {lab : Nat → Nat} {S : Nat → Int32} {el fr to_ at_ : Nat → Nat} (h : Ed n lab S el fr to_ at_) {a b : Nat} (ha : a < 4 * n) (hb : b < 4 * n) (he : ar fr to_ a = ar fr to_ b) : a = b := by
  have h1 := ed_at_fr h (e := a / 2) (by omega)
  have h2 := ed_at_fr h (e := b / 2) (by omega)
  have h3 := ed_at_to h (e := a / 2) (by omega)
  have h4 := ed_at_to h (e := b / 2) (by omega)
  unfold ar at he
  split at he <;> split at he
  · rw [he] at h3; omega
  · exact absurd he.symm (ed_ne h (by omega) (by omega))
  · exact absurd he (ed_ne h (by omega) (by omega))
  · rw [he] at h1; omega
theorem lvd_lt {n : Nat} {lab : Nat → Nat} {S : Nat → Int32} {el fr to_ at_ : Nat → Nat} (h : Ed n lab S el fr to_ at_) {q : Nat} (hq : q < 4 * n) : lv fr at_ q < 4 * n := by
  have := (h.2.2 q hq).1
  unfold lv
  split <;> omega
theorem lvd_inj {n : Nat} {lab : Nat → Nat} {S : Nat → Int32} {el fr to_ at_ : Nat → Nat} (h : Ed n lab S el fr to_ at_) {a b : Nat} (ha : a < 4 * n) (hb : b < 4 * n) (he : lv fr at_ a = lv fr at_ b) : a = b := by
  obtain ⟨a1, a2⟩ := h.2.2 a ha
  obtain ⟨b1, b2⟩ := h.2.2 b hb
  unfold lv at he
  split at he <;> split at he
  · rename_i c1 c2
    rw [← c1, ← c2, show at_ a = at_ b by omega]
  · omega
  · omega
  · rename_i c1 c2
    rcases a2 with a2 | a2
    · exact absurd a2.symm c1
    · rcases b2 with b2 | b2
      · exact absurd b2.symm c2
      · rw [a2, b2, show at_ a = at_ b by omega]
theorem rot_lt {n q : Nat} (hq : q < 4 * n) : rot q < 4 * n := by unfold rot; omega
theorem perm_D {n : Nat} {lab : Nat → Nat} {S : Nat → Int32} {el fr to_ at_ : Nat → Nat} (h : Ed n lab S el fr to_ at_) : Perm (4 * n) (nxD fr to_ at_) := by
  refine ⟨fun d hd => lvd_lt h (rot_lt (ar_lt h hd)), fun a b ha hb he => ?_⟩
  have h1 := lvd_inj h (rot_lt (ar_lt h ha)) (rot_lt (ar_lt h hb)) he
  unfold rot at h1
  exact ar_inj h ha hb (by omega)
theorem m_next {n : Nat} {lab : Nat → Nat} {S : Nat → Int32} {el fr to_ at_ : Nat → Nat} {LB FR TO AT : Nat → Int32} (hn : n ≤ 20) (h : Ed n lab S el fr to_ at_) (hA : EdA n el fr to_ at_ LB FR TO AT) (PL : Nat → Int32) {d : Nat} (hd : d < 4 * n) : zPu y_Edg_nextDart b_Edg_nextDart 4 (some .int) ⟨1, 0, 0, 24⟩ [.ref 0, .int (nI d)] (edgH (2 * n) PL LB FR TO AT) (.int (nI (nxD fr to_ at_ d))) := by
  have h1 := ar_lt h hd
  have h2 := rot_lt h1
  have h3 := (h.2.2 _ h2).1
  have hq : (if d % 2 = 0 then TO (d / 2) else FR (d / 2)) = nI (ar fr to_ d) := by
    obtain ⟨-, q2, q3⟩ := hA.1 (d / 2) (by omega)
    unfold ar
    split
    · exact q3
    · exact q2
  have := m_Edg_nextDart (2 * n) PL LB FR TO AT d (ar fr to_ d) (at_ (rot (ar fr to_ d))) (by omega) (by omega) (by omega) hq (hA.2 _ h2)
  have e : (if FR (at_ (rot (ar fr to_ d))) = nI (4 * (ar fr to_ d / 4) + (ar fr to_ d + 3) % 4) then 2 * at_ (rot (ar fr to_ d)) else 2 * at_ (rot (ar fr to_ d)) + 1) = nxD fr to_ at_ d := by
    have h4 := (h.1 _ h3).1
    rw [(hA.1 _ h3).2.1]
    unfold nxD lv
    have : nI (fr (at_ (rot (ar fr to_ d)))) = nI (4 * (ar fr to_ d / 4) + (ar fr to_ d + 3) % 4) ↔ fr (at_ (rot (ar fr to_ d))) = rot (ar fr to_ d) := nI_eq (by omega) (by unfold rot at h2; omega)
    simp only [this]
  rw [e] at this
  exact this
/-! Faces -/
abbrev facH (F : Nat) (OF RD ST : Nat → Int32) : List zE := [zo 4 [.ref 1, .ref 2, .ref 3, .int (nI F)], za 80 OF, za 80 RD, za 81 ST]
abbrev feH (F : Nat) (OF RD ST : Nat → Int32) (m : Nat) (PL LB FR TO AT : Nat → Int32) : List zE := [zo 4 [.ref 1, .ref 2, .ref 3, .int (nI F)], za 80 OF, za 80 RD, za 81 ST, zo 3 [.ref 5, .ref 6, .ref 7, .ref 8, .ref 9, .int (nI m)], za 80 PL, za 40 LB, za 40 FR, za 40 TO, za 80 AT]
def rdw (nx : Nat → Nat) (RD : Nat → Int32) (b d : Nat) : Nat → (Nat → Int32)
  | 0 => RD
  | i + 1 => upd (rdw nx RD b d i) (b + i) (nI (it nx i d))
set_option maxHeartbeats 1000000 in
theorem m_Fac_addRound {n : Nat} {lab : Nat → Nat} {S : Nat → Int32} {el fr to_ at_ : Nat → Nat} {LB FR TO AT : Nat → Int32} (hn : n ≤ 20) (h : Ed n lab S el fr to_ at_) (hA : EdA n el fr to_ at_ LB FR TO AT) (PL : Nat → Int32) (F : Nat) (OF RD ST : Nat → Int32) (d t : Nat) (hF : F < 80) (hd : d < 4 * n)
    (hst : ST F = nI (cs OF (4 * n))) (t1 : ∀ a, a < t → gs (nxD fr to_ at_) (nI F) OF d a (it (nxD fr to_ at_) a d) < 0) (t2 : ¬ gs (nxD fr to_ at_) (nI F) OF d t (it (nxD fr to_ at_) t d) < 0) : zMet y_Fac_addRound b_Fac_addRound 5 none ⟨2, 0, 0, 50⟩ [.ref 0, .ref 4, .int (nI d)] (feH F OF RD ST (2 * n) PL LB FR TO AT)
    (fun r h' => r = none ∧ h' = feH (F + 1) (gs (nxD fr to_ at_) (nI F) OF d t) (rdw (nxD fr to_ at_) RD (cs OF (4 * n)) d t) (upd ST (F + 1) (nI (cs OF (4 * n) + t))) (2 * n) PL LB FR TO AT) := by
  have hp := perm_D h
  have hcs := cs_gs (v := nI F) hp hd (nI_pos (by omega)) t1
  have hlt := fun i => it_lt hp hd i
  refine zMet_of (plainFor_of_name (by decide +kernel)) rfl (Nat.le_of_ble_eq_true rfl) (fun z1 z2 z3 z4 z5 z6 z7 z8 z9 z10 z11 z12 z13 z14 O hin => ?_)
  refine zi_ls (ls' := [some (.ref 0), some (.ref 4), some (.int (nI d)), none, none]) rfl ?_
  refine zi_aload_n O d_Fac_addRound_0 rfl ?_
  refine zi_get O f_Fac_18 d_Fac_addRound_1 rfl rfl ?_
  refine zi_aload_n O d_Fac_addRound_4 rfl ?_
  refine zi_get O f_Fac_27 d_Fac_addRound_5 rfl rfl ?_
  refine zi_iald O d_Fac_addRound_8 rfl rfl (by omega) (Nat.le_of_ble_eq_true rfl) ?_
  rw [hst]
  refine zi_istore_n (ls' := _ :: _ :: _ :: some _ :: _) O d_Fac_addRound_9 rfl (by decide) rfl ?_
  refine zi_iload_n O d_Fac_addRound_10 rfl ?_
  refine zi_istore (ls' := _ :: _ :: _ :: _ :: some _ :: _) O d_Fac_addRound_11 rfl (by decide) rfl ?_
  refine zi_for (fun i => [some (.ref 0), some (.ref 4), some (.int (nI d)), some (.int (nI (cs OF (4 * n) + i))), some (.int (nI (it (nxD fr to_ at_) i d)))]) (fun i => feH F (gs (nxD fr to_ at_) (nI F) OF d i) (rdw (nxD fr to_ at_) RD (cs OF (4 * n)) d i) ST (2 * n) PL LB FR TO AT) 0 t (by omega) rfl rfl (fun i _ hi ih => ?_) ?_
  · have e1 := hcs i (by omega)
    have e2 := cs_lt (hlt i) (t1 i hi)
    have e3 := hlt i
    refine zi_iload_n O d_Fac_addRound_13 rfl ?_
    refine zi_bipushN O 80 d_Fac_addRound_14 (by decide) ?_
    refine zi_icmp_geN O 62 d_Fac_addRound_16 (by decide) (by omega) (by omega) (fun c16 => ?_) (fun c16 => ?_)
    · omega
    · refine zi_aload_n O d_Fac_addRound_19 rfl ?_
      refine zi_get O f_Fac_9 d_Fac_addRound_20 rfl rfl ?_
      refine zi_iload O d_Fac_addRound_23 rfl ?_
      refine zi_iald O d_Fac_addRound_25 rfl rfl (by omega) (Nat.le_of_ble_eq_true rfl) ?_
      refine zi_if_ge O 62 d_Fac_addRound_26 (by decide) (fun c26 => ?_) (fun c26 => ?_)
      · exact absurd (t1 i hi) (Int32.not_lt.mpr c26)
      · refine zi_aload_n O d_Fac_addRound_29 rfl ?_
        refine zi_get O f_Fac_9 d_Fac_addRound_30 rfl rfl ?_
        refine zi_iload O d_Fac_addRound_33 rfl ?_
        refine zi_aload_n O d_Fac_addRound_35 rfl ?_
        refine zi_get O f_Fac_27 d_Fac_addRound_36 rfl rfl ?_
        refine zi_iast O d_Fac_addRound_39 rfl rfl (by omega) (Nat.le_of_ble_eq_true rfl) (by dsimp only [List.set]) ?_
        refine zi_aload_n O d_Fac_addRound_40 rfl ?_
        refine zi_get O f_Fac_15 d_Fac_addRound_41 rfl rfl ?_
        refine zi_iload_n O d_Fac_addRound_44 rfl ?_
        refine zi_iload O d_Fac_addRound_45 rfl ?_
        refine zi_iast O d_Fac_addRound_47 rfl rfl (by omega) (Nat.le_of_ble_eq_true rfl) (by dsimp only [List.set]) ?_
        refine zi_aload_n O d_Fac_addRound_48 rfl ?_
        refine zi_iload O d_Fac_addRound_49 rfl ?_
        refine zi_pureV O [4, 5, 6, 7, 8, 9] c_Fac_38 k_Edg_nextDart (m_next hn h hA PL (hlt i)) d_Fac_addRound_51 ⟨(Nat.le_of_ble_eq_true rfl), (Nat.le_of_ble_eq_true rfl)⟩ ⟨(Nat.le_of_ble_eq_true rfl), (Nat.le_of_ble_eq_true rfl)⟩ rfl rfl (Nat.le_of_ble_eq_true rfl) rfl rfl rfl rfl rfl (Nat.le_of_ble_eq_true rfl) rfl ?_
        refine zi_istore (ls' := _ :: _ :: _ :: _ :: some _ :: _) O d_Fac_addRound_54 rfl (by decide) rfl ?_
        refine zi_iincN (ls' := _ :: _ :: _ :: some _ :: _) O 1 d_Fac_addRound_56 rfl (by decide) rfl (by decide) rfl ?_
        refine zi_goto O 13 d_Fac_addRound_59 (by decide) ?_
        exact ih
  · have e3 := hlt t
    have e4 := hcs t (Nat.le_refl _)
    have e5 := cs_le (gs (nxD fr to_ at_) (nI F) OF d t) (4 * n)
    refine zi_iload_n O d_Fac_addRound_13 rfl ?_
    refine zi_bipushN O 80 d_Fac_addRound_14 (by decide) ?_
    have fin : zG z1 z2 z3 z4 z5 z6 z7 z8 z9 z10 z11 z12 z13 z14 10 5 (fun r h' => r = none ∧ h' = feH (F + 1) (gs (nxD fr to_ at_) (nI F) OF d t) (rdw (nxD fr to_ at_) RD (cs OF (4 * n)) d t) (upd ST (F + 1) (nI (cs OF (4 * n) + t))) (2 * n) PL LB FR TO AT) 0 0 0 0 62 [some (.ref 0), some (.ref 4), some (.int (nI d)), some (.int (nI (cs OF (4 * n) + t))), some (.int (nI (it (nxD fr to_ at_) t d)))] [] (feH F (gs (nxD fr to_ at_) (nI F) OF d t) (rdw (nxD fr to_ at_) RD (cs OF (4 * n)) d t) ST (2 * n) PL LB FR TO AT) := by
      refine zi_aload_n O d_Fac_addRound_62 rfl ?_
      refine zi_dup O d_Fac_addRound_63 rfl ?_
      refine zi_get O f_Fac_27 d_Fac_addRound_64 rfl rfl ?_
      refine zi_iconstN O 1 d_Fac_addRound_67 (by decide) ?_
      first | refine zi_iaddN O d_Fac_addRound_68 ?_ | refine zi_iadd O d_Fac_addRound_68 ?_
      refine zi_put O f_Fac_27 d_Fac_addRound_69 rfl (Nat.le_of_ble_eq_true rfl) (fun _ => rfl) (fun _ => rfl) (by dsimp only [List.set]) ?_
      refine zi_aload_n O d_Fac_addRound_72 rfl ?_
      refine zi_get O f_Fac_18 d_Fac_addRound_73 rfl rfl ?_
      refine zi_aload_n O d_Fac_addRound_76 rfl ?_
      refine zi_get O f_Fac_27 d_Fac_addRound_77 rfl rfl ?_
      refine zi_iload_n O d_Fac_addRound_80 rfl ?_
      refine zi_iast O d_Fac_addRound_81 rfl rfl (by omega) (Nat.le_of_ble_eq_true rfl) (by dsimp only [List.set]) ?_
      refine zi_vret O d_Fac_addRound_82 (Nat.le_of_ble_eq_true rfl) (Nat.le_of_ble_eq_true rfl) (Nat.le_of_ble_eq_true rfl) ?_
      exact ⟨rfl, rfl⟩
    refine zi_icmp_geN O 62 d_Fac_addRound_16 (by decide) (by omega) (by omega) (fun c16 => ?_) (fun c16 => ?_)
    · exact fin
    · refine zi_aload_n O d_Fac_addRound_19 rfl ?_
      refine zi_get O f_Fac_9 d_Fac_addRound_20 rfl rfl ?_
      refine zi_iload O d_Fac_addRound_23 rfl ?_
      refine zi_iald O d_Fac_addRound_25 rfl rfl (by omega) (Nat.le_of_ble_eq_true rfl) ?_
      refine zi_if_ge O 62 d_Fac_addRound_26 (by decide) (fun c26 => ?_) (fun c26 => ?_)
      · exact fin
      · exact absurd (Int32.not_le.mp c26) t2
/-- what the faces' arrays hold, when the darts below d are through -/
def RdOK (N : Nat) (nx : Nat → Nat) (d : Nat) (RD ST : Nat → Int32) : Prop := ∃ st : Nat → Nat, (∀ k, k ≤ (FF nx N d).2 → ST k = nI (st k)) ∧ st 0 = 0 ∧ st (FF nx N d).2 = cs (FF nx N d).1 N ∧ ∀ k, k < (FF nx N d).2 → ∃ l t, l < d ∧ 0 < t ∧ st (k + 1) = st k + t ∧ st (k + 1) ≤ cs (FF nx N d).1 N ∧ (∀ i, i < t → RD (st k + i) = nI (it nx i l)) ∧ it nx t l = l ∧ (∀ i, 0 < i → i < t → it nx i l ≠ l) ∧ (FF nx N d).1 l = nI k ∧ ∀ j, j < l → (FF nx N d).1 j ≠ nI k
theorem rdw_lo {nx : Nat → Nat} {RD : Nat → Int32} {b d j : Nat} (h : j < b) : ∀ i, rdw nx RD b d i j = RD j
  | 0 => rfl
  | i + 1 => by rw [rdw, pk_un (by omega)]; exact rdw_lo h i
theorem rdw_in {nx : Nat → Nat} {RD : Nat → Int32} {b d : Nat} : ∀ {i a : Nat}, a < i → rdw nx RD b d i (b + a) = nI (it nx a d)
  | 0, _, h => absurd h (Nat.not_lt_zero _)
  | i + 1, a, h => by
    rw [rdw]
    by_cases c : a = i
    · rw [c, pk_us]
    · rw [pk_un (by omega)]; exact rdw_in (by omega)
theorem ff_le {N : Nat} {nx : Nat → Nat} (hN : N < 2 ^ 31) (hp : Perm N nx) {d : Nat} (hd : d ≤ N) : (FF nx N d).2 ≤ N := Nat.le_trans (ff_cl hN hp d hd).2.1 (cs_le _ _)
theorem rdOK_add {N : Nat} {nx : Nat → Nat} (hN : N < 2 ^ 31) (hp : Perm N nx) {d t : Nat} {RD ST : Nat → Int32} (hd : d < N) (h : RdOK N nx d RD ST) (hf : (FF nx N d).1 d < 0) (t0 : 0 < t) (tb : it nx t d = d) (td : ∀ a b, a < b → b < t → it nx a d ≠ it nx b d)
    (tc : cs (gs nx (nI (FF nx N d).2) (FF nx N d).1 d t) N = cs (FF nx N d).1 N + t) (tw : Wk nx (nI (FF nx N d).2) N (FF nx N d).1 d = gs nx (nI (FF nx N d).2) (FF nx N d).1 d t) : RdOK N nx (d + 1) (rdw nx RD (cs (FF nx N d).1 N) d t) (upd ST ((FF nx N d).2 + 1) (nI (cs (FF nx N d).1 N + t))) := by
  obtain ⟨st, h1, h2, h3, h4⟩ := h
  obtain ⟨g1, g2, g3, g4⟩ := ff_cl hN hp d (by omega)
  have hF := ff_le hN hp (d := d) (by omega)
  have e : FF nx N (d + 1) = (gs nx (nI (FF nx N d).2) (FF nx N d).1 d t, (FF nx N d).2 + 1) := by rw [FF, if_pos hf, tw]
  unfold RdOK
  rw [e]
  dsimp only
  have hset : ∀ x, ¬ (FF nx N d).1 x < 0 → gs nx (nI (FF nx N d).2) (FF nx N d).1 d t x = (FF nx N d).1 x := by
    intro x hx
    refine gs_out (fun a _ z => hx ?_)
    rw [← z, cl_it hp g1 hd]
    exact hf
  obtain ⟨s2, s3, s4⟩ : ∃ s2 : Nat → Nat, s2 ((FF nx N d).2 + 1) = cs (FF nx N d).1 N + t ∧ ∀ k, k ≠ (FF nx N d).2 + 1 → s2 k = st k := ⟨fun k => if k = (FF nx N d).2 + 1 then cs (FF nx N d).1 N + t else st k, if_pos rfl, fun k hk => if_neg hk⟩
  refine ⟨s2, fun k hk => ?_, by rw [s4 _ (by omega)]; exact h2, by rw [s3, tc], fun k hk => ?_⟩
  · by_cases c : k = (FF nx N d).2 + 1
    · rw [c, pk_us, s3]
    · rw [pk_un c, s4 _ c]; exact h1 k (by omega)
  · by_cases c : k = (FF nx N d).2
    · subst c
      refine ⟨d, t, by omega, t0, by rw [s3, s4 _ (by omega), h3], by rw [s3, tc]; omega, fun i hi => by rw [s4 _ (by omega), h3]; exact rdw_in hi, tb, fun i q1 q2 z => td 0 i q1 q2 z.symm, gs_in (a := 0) t0, fun j hj => ?_⟩
      rw [hset j (g3 j hj)]
      intro z
      rcases g4 j with q | ⟨k, q1, q2⟩
      · have := g3 j hj; rw [q] at this; exact this (by decide)
      · rw [q2] at z
        have := (nI_eq (by omega) (by omega)).mp z
        omega
    · obtain ⟨l, s, a1, a2, a3, a4, a5, a6, a7, a8, a9⟩ := h4 k (by omega)
      have hl : ¬ (FF nx N d).1 l < 0 := g3 l a1
      refine ⟨l, s, by omega, a2, by rw [s4 _ (by omega), s4 _ (by omega), a3], by rw [s4 _ (by omega), tc]; omega, fun i hi => ?_, a6, a7, by rw [hset l hl, a8], fun j hj => ?_⟩
      · rw [s4 _ (by omega), rdw_lo (by omega)]
        exact a5 i hi
      · rw [hset j (g3 j (by omega))]
        exact a9 j hj
set_option maxHeartbeats 1000000 in
theorem m_Fac_find {n : Nat} {lab : Nat → Nat} {S : Nat → Int32} {el fr to_ at_ : Nat → Nat} {LB FR TO AT : Nat → Int32} (hn : n ≤ 20) (h : Ed n lab S el fr to_ at_) (hA : EdA n el fr to_ at_ LB FR TO AT) (PL : Nat → Int32) (F : Nat) (OF RD ST : Nat → Int32) (hs0 : ST 0 = nI 0) : zMet y_Fac_find b_Fac_find 3 none ⟨3, 0, 0, 80⟩ [.ref 0, .ref 4] (feH F OF RD ST (2 * n) PL LB FR TO AT)
    (fun r h' => r = none ∧ ∃ RD' ST' : Nat → Int32, h' = feH (FF (nxD fr to_ at_) (4 * n) (4 * n)).2 (FF (nxD fr to_ at_) (4 * n) (4 * n)).1 RD' ST' (2 * n) PL LB FR TO AT ∧ RdOK (4 * n) (nxD fr to_ at_) (4 * n) RD' ST' ∧ ST' 0 = nI 0) := by
  have hp := perm_D h
  have hN : 4 * n < 2 ^ 31 := by omega
  generalize hnx : nxD fr to_ at_ = nx at hp
  refine zMet_of (plainFor_of_name (by decide +kernel)) rfl (Nat.le_of_ble_eq_true rfl) (fun z1 z2 z3 z4 z5 z6 z7 z8 z9 z10 z11 z12 z13 z14 O hin => ?_)
  refine zi_ls (ls' := [some (.ref 0), some (.ref 4), none]) rfl ?_
  refine zi_aload_n O d_Fac_find_0 rfl ?_
  refine zi_get O f_Fac_9 d_Fac_find_1 rfl rfl ?_
  refine zi_iconst (v := -1) O d_Fac_find_4 (by decide) ?_
  refine zi_callS O [1] c_Fac_21 k_Arr_fill (m_Arr_fill 80 OF (-1) (by omega)) d_Fac_find_5 ⟨(Nat.le_of_ble_eq_true rfl), (Nat.le_of_ble_eq_true rfl)⟩ ⟨(Nat.le_of_ble_eq_true rfl), (Nat.le_of_ble_eq_true rfl)⟩ rfl (Nat.le_of_ble_eq_true rfl) rfl rfl rfl rfl rfl (Nat.le_of_ble_eq_true rfl) rfl (fun r h' hq hl => ?_)
  obtain ⟨rfl, rfl⟩ := hq
  refine zi_st (st' := []) rfl (zi_h (h' := feH F (fun _ => -1) RD ST (2 * n) PL LB FR TO AT) rfl ?_)
  refine zi_aload_n O d_Fac_find_8 rfl ?_
  refine zi_iconstN O 0 d_Fac_find_9 (by decide) ?_
  refine zi_put O f_Fac_27 d_Fac_find_10 rfl (Nat.le_of_ble_eq_true rfl) (fun _ => rfl) (fun _ => rfl) (by dsimp only [List.set]) ?_
  refine zi_iconstN O 0 d_Fac_find_13 (by decide) ?_
  refine zi_istore_n (ls' := _ :: _ :: some _ :: _) O d_Fac_find_14 rfl (by decide) rfl ?_
  refine zi_loop (σ := Nat × (Nat → Int32) × (Nat → Int32)) (fun x => [some (.ref 0), some (.ref 4), some (.int (nI x.1))]) (fun x => feH (FF nx (4 * n) x.1).2 (FF nx (4 * n) x.1).1 x.2.1 x.2.2 (2 * n) PL LB FR TO AT) (fun x => x.1 ≤ 4 * n ∧ RdOK (4 * n) nx x.1 x.2.1 x.2.2 ∧ x.2.2 0 = nI 0) (fun x => 4 * n - x.1) (0, RD, ST) rfl rfl ⟨Nat.zero_le _, ⟨fun _ => 0, fun k hk => ?_, rfl, ?_, fun k hk => absurd hk (Nat.not_lt_zero k)⟩, hs0⟩ ?_
  · have : k = 0 := Nat.le_zero.mp hk
    rw [this]; exact hs0
  · show 0 = cs (fun _ => -1) (4 * n)
    have : ∀ N, cs (fun _ => (-1 : Int32)) N = 0 := by
      intro N
      induction N with
      | zero => rfl
      | succ N ih => rw [cs, ih, if_pos (by decide)]
    rw [this]
  rintro ⟨d, RK, SK⟩ ⟨hd, hR, hz⟩ ih
  dsimp only at hd hR hz ih ⊢
  obtain ⟨g1, g2, g3, g4⟩ := ff_cl hN hp d hd
  have hF := ff_le hN hp hd
  refine zi_iload_n O d_Fac_find_15 rfl ?_
  refine zi_iconstN O 2 d_Fac_find_16 (by decide) ?_
  refine zi_aload_n O d_Fac_find_17 rfl ?_
  refine zi_get O f_Fac_31 d_Fac_find_18 rfl rfl ?_
  first | refine zi_imulN O d_Fac_find_21 ?_ | refine zi_imul O d_Fac_find_21 ?_
  refine zi_icmp_geN O 46 d_Fac_find_22 (by decide) (by omega) (by omega) (fun c22 => ?_) (fun c22 => ?_)
  · refine zi_vret O d_Fac_find_46 (Nat.le_of_ble_eq_true rfl) (Nat.le_of_ble_eq_true rfl) (Nat.le_of_ble_eq_true rfl) ?_
    have : d = 4 * n := by omega
    subst this
    exact ⟨rfl, RK, SK, rfl, hR, hz⟩
  · refine zi_aload_n O d_Fac_find_25 rfl ?_
    refine zi_get O f_Fac_9 d_Fac_find_26 rfl rfl ?_
    refine zi_iload_n O d_Fac_find_29 rfl ?_
    refine zi_iald O d_Fac_find_30 rfl rfl (by omega) (Nat.le_of_ble_eq_true rfl) ?_
    refine zi_if_ge O 40 d_Fac_find_31 (by decide) (fun c31 => ?_) (fun c31 => ?_)
    · refine zi_iincN (ls' := _ :: _ :: some _ :: _) O 1 d_Fac_find_40 rfl (by decide) rfl (by decide) rfl ?_
      refine zi_goto O 15 d_Fac_find_43 (by decide) ?_
      have e : FF nx (4 * n) (d + 1) = FF nx (4 * n) d := by rw [FF, if_neg (Int32.not_lt.mpr c31)]
      have := ih (d + 1, RK, SK) ⟨by dsimp only; omega, ?_, hz⟩ (by dsimp only; omega)
      · dsimp only at this
        rw [e] at this
        exact this
      · dsimp only
        unfold RdOK at hR ⊢
        rw [e]
        obtain ⟨st, h1, h2, h3, h4⟩ := hR
        refine ⟨st, h1, h2, h3, fun k hk => ?_⟩
        obtain ⟨l, t, q1, q2⟩ := h4 k hk
        exact ⟨l, t, by omega, q2⟩
    · have hf := Int32.not_le.mp c31
      have hlt := cs_lt (by omega : d < 4 * n) hf
      obtain ⟨t, t0, tb, td, t1, t2, tc, tw, tcl⟩ := walk_round (v := nI (FF nx (4 * n) d).2) hp g1 (by omega) hf (nI_pos (by omega))
      refine zi_aload_n O d_Fac_find_34 rfl ?_
      refine zi_aload_n O d_Fac_find_35 rfl ?_
      refine zi_iload_n O d_Fac_find_36 rfl ?_
      subst hnx
      refine zi_callV O [0, 1, 2, 3, 4, 5, 6, 7, 8, 9] c_Fac_34 k_Fac_addRound (m_Fac_addRound hn h hA PL (FF (nxD fr to_ at_) (4 * n) d).2 (FF (nxD fr to_ at_) (4 * n) d).1 RK SK d t (by omega) (by omega) (by obtain ⟨st, h1, h2, h3, h4⟩ := hR; rw [h1 _ (Nat.le_refl _), h3]) t1 t2) d_Fac_find_37 ⟨(Nat.le_of_ble_eq_true rfl), (Nat.le_of_ble_eq_true rfl)⟩ ⟨(Nat.le_of_ble_eq_true rfl), (Nat.le_of_ble_eq_true rfl)⟩ rfl rfl (Nat.le_of_ble_eq_true rfl) rfl rfl rfl rfl rfl (Nat.le_of_ble_eq_true rfl) rfl (fun r h' hq hl => ?_)
      obtain ⟨rfl, rfl⟩ := hq
      refine zi_st (st' := []) rfl (zi_h (h' := feH ((FF (nxD fr to_ at_) (4 * n) d).2 + 1) (gs (nxD fr to_ at_) (nI (FF (nxD fr to_ at_) (4 * n) d).2) (FF (nxD fr to_ at_) (4 * n) d).1 d t) (rdw (nxD fr to_ at_) RK (cs (FF (nxD fr to_ at_) (4 * n) d).1 (4 * n)) d t) (upd SK ((FF (nxD fr to_ at_) (4 * n) d).2 + 1) (nI (cs (FF (nxD fr to_ at_) (4 * n) d).1 (4 * n) + t))) (2 * n) PL LB FR TO AT) rfl ?_)
      refine zi_iincN (ls' := _ :: _ :: some _ :: _) O 1 d_Fac_find_40 rfl (by decide) rfl (by decide) rfl ?_
      refine zi_goto O 15 d_Fac_find_43 (by decide) ?_
      have e : FF (nxD fr to_ at_) (4 * n) (d + 1) = (gs (nxD fr to_ at_) (nI (FF (nxD fr to_ at_) (4 * n) d).2) (FF (nxD fr to_ at_) (4 * n) d).1 d t, (FF (nxD fr to_ at_) (4 * n) d).2 + 1) := by rw [FF, if_pos hf, tw]
      have hz2 : upd SK ((FF (nxD fr to_ at_) (4 * n) d).2 + 1) (nI (cs (FF (nxD fr to_ at_) (4 * n) d).1 (4 * n) + t)) 0 = nI 0 := by rw [pk_un (by omega)]; exact hz
      have := ih (d + 1, _, _) ⟨by dsimp only; omega, rdOK_add hN hp (by omega) hR hf t0 tb td tc tw, hz2⟩ (by dsimp only; omega)
      dsimp only at this
      rw [e] at this
      exact this
theorem m_Fac_has (F : Nat) (OF RD ST : Nat → Int32) (x : Int32) : zPu y_Fac_has b_Fac_has 2 (some .boolean) ⟨0, 0, 0, 0⟩ [.ref 0, .int x] (facH F OF RD ST) (.int (zb (0 ≤ x ∧ x < nI F))) := by
  refine zMet_of (plainFor_of_name (by decide +kernel)) rfl (Nat.le_of_ble_eq_true rfl) (fun z1 z2 z3 z4 z5 z6 z7 z8 z9 z10 z11 z12 z13 z14 O hin => ?_)
  refine zi_ls (ls' := [some (.ref 0), some (.int x)]) rfl ?_
  refine zi_iload_n O d_Fac_has_0 rfl ?_
  refine zi_if_lt O 16 d_Fac_has_1 (by decide) (fun c1 => ?_) (fun c1 => ?_)
  · refine zi_iconstN O 0 d_Fac_has_16 (by decide) ?_
    refine zi_zret O d_Fac_has_17 rfl (Nat.le_of_ble_eq_true rfl) (Nat.le_of_ble_eq_true rfl) (Nat.le_of_ble_eq_true rfl) ?_
    exact ⟨by rw [zb_f (fun z => Int32.not_lt.mpr z.1 c1)]; rfl, rfl⟩
  · refine zi_iload_n O d_Fac_has_4 rfl ?_
    refine zi_aload_n O d_Fac_has_5 rfl ?_
    refine zi_get O f_Fac_27 d_Fac_has_6 rfl rfl ?_
    refine zi_icmp_ge O 16 d_Fac_has_9 (by decide) (fun c9 => ?_) (fun c9 => ?_)
    · refine zi_iconstN O 0 d_Fac_has_16 (by decide) ?_
      refine zi_zret O d_Fac_has_17 rfl (Nat.le_of_ble_eq_true rfl) (Nat.le_of_ble_eq_true rfl) (Nat.le_of_ble_eq_true rfl) ?_
      exact ⟨by rw [zb_f (fun z => Int32.not_lt.mpr c9 z.2)]; rfl, rfl⟩
    · refine zi_iconstN O 1 d_Fac_has_12 (by decide) ?_
      refine zi_goto O 17 d_Fac_has_13 (by decide) ?_
      refine zi_zret O d_Fac_has_17 rfl (Nat.le_of_ble_eq_true rfl) (Nat.le_of_ble_eq_true rfl) (Nat.le_of_ble_eq_true rfl) ?_
      exact ⟨by rw [zb_t ⟨Int32.not_lt.mp c1, Int32.not_le.mp c9⟩]; rfl, rfl⟩
theorem m_Fac_size (F : Nat) (OF RD ST : Nat → Int32) (k a b : Nat) (hk : k < 80) (h1 : ST k = nI a) (h2 : ST (k + 1) = nI b) (hab : a ≤ b) : zPu y_Fac_size b_Fac_size 2 (some .int) ⟨0, 0, 0, 0⟩ [.ref 0, .int (nI k)] (facH F OF RD ST) (.int (nI (b - a))) := by
  refine zMet_of (plainFor_of_name (by decide +kernel)) rfl (Nat.le_of_ble_eq_true rfl) (fun z1 z2 z3 z4 z5 z6 z7 z8 z9 z10 z11 z12 z13 z14 O hin => ?_)
  refine zi_ls (ls' := [some (.ref 0), some (.int (nI k))]) rfl ?_
  refine zi_aload_n O d_Fac_size_0 rfl ?_
  refine zi_get O f_Fac_18 d_Fac_size_1 rfl rfl ?_
  refine zi_iload_n O d_Fac_size_4 rfl ?_
  refine zi_iconstN O 1 d_Fac_size_5 (by decide) ?_
  first | refine zi_iaddN O d_Fac_size_6 ?_ | refine zi_iadd O d_Fac_size_6 ?_
  refine zi_iald O d_Fac_size_7 rfl rfl (by omega) (Nat.le_of_ble_eq_true rfl) ?_
  rw [h2]
  refine zi_aload_n O d_Fac_size_8 rfl ?_
  refine zi_get O f_Fac_18 d_Fac_size_9 rfl rfl ?_
  refine zi_iload_n O d_Fac_size_12 rfl ?_
  refine zi_iald O d_Fac_size_13 rfl rfl (by omega) (Nat.le_of_ble_eq_true rfl) ?_
  rw [h1]
  first | refine zi_isubN O d_Fac_size_14 (by omega) ?_ | refine zi_isub O d_Fac_size_14 ?_
  refine zi_iret O d_Fac_size_15 (Nat.le_of_ble_eq_true rfl) (Nat.le_of_ble_eq_true rfl) (Nat.le_of_ble_eq_true rfl) ?_
  exact ⟨rfl, rfl⟩
theorem m_Fac_dart (F : Nat) (OF RD ST : Nat → Int32) (k i a d : Nat) (hk : k < 80) (h1 : ST k = nI a) (ha : a + i < 80) (h2 : RD (a + i) = nI d) : zPu y_Fac_dart b_Fac_dart 3 (some .int) ⟨0, 0, 0, 0⟩ [.ref 0, .int (nI k), .int (nI i)] (facH F OF RD ST) (.int (nI d)) := by
  refine zMet_of (plainFor_of_name (by decide +kernel)) rfl (Nat.le_of_ble_eq_true rfl) (fun z1 z2 z3 z4 z5 z6 z7 z8 z9 z10 z11 z12 z13 z14 O hin => ?_)
  refine zi_ls (ls' := [some (.ref 0), some (.int (nI k)), some (.int (nI i))]) rfl ?_
  refine zi_aload_n O d_Fac_dart_0 rfl ?_
  refine zi_get O f_Fac_15 d_Fac_dart_1 rfl rfl ?_
  refine zi_aload_n O d_Fac_dart_4 rfl ?_
  refine zi_get O f_Fac_18 d_Fac_dart_5 rfl rfl ?_
  refine zi_iload_n O d_Fac_dart_8 rfl ?_
  refine zi_iald O d_Fac_dart_9 rfl rfl (by omega) (Nat.le_of_ble_eq_true rfl) ?_
  rw [h1]
  refine zi_iload_n O d_Fac_dart_10 rfl ?_
  first | refine zi_iaddN O d_Fac_dart_11 ?_ | refine zi_iadd O d_Fac_dart_11 ?_
  refine zi_iald O d_Fac_dart_12 rfl rfl (by omega) (Nat.le_of_ble_eq_true rfl) ?_
  rw [h2]
  refine zi_iret O d_Fac_dart_13 (Nat.le_of_ble_eq_true rfl) (Nat.le_of_ble_eq_true rfl) (Nat.le_of_ble_eq_true rfl) ?_
  exact ⟨rfl, rfl⟩
