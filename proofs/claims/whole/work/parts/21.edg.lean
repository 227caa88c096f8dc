/-! Edges: reading -/
abbrev edgH (m : Nat) (PL LB FR TO AT : Nat → Int32) : List zE := [zo 3 [.ref 1, .ref 2, .ref 3, .ref 4, .ref 5, .int (nI m)], za 80 PL, za 40 LB, za 40 FR, za 40 TO, za 80 AT]
theorem m_Edg_withLabel (m : Nat) (PL LB FR TO AT : Nat → Int32) (x : Int32) (hm : m ≤ 40) (i : Nat) (hi : i < m) (hx : LB i = x) (hb : ∀ j, j < i → ¬ LB j = x) : zPu y_Edg_withLabel b_Edg_withLabel 3 (some .int) ⟨0, 0, 0, 0⟩ [.ref 0, .int x] (edgH m PL LB FR TO AT) (.int (nI i)) := by
  refine zMet_of (plainFor_of_name (by decide +kernel)) rfl (Nat.le_of_ble_eq_true rfl) (fun z1 z2 z3 z4 z5 z6 z7 z8 z9 z10 z11 z12 z13 z14 O hin => ?_)
  refine zi_ls (ls' := [some (.ref 0), some (.int x), none]) rfl ?_
  refine zi_iconstN O 0 d_Edg_withLabel_0 (by decide) ?_
  refine zi_istore_n (ls' := _ :: _ :: some _ :: _) O d_Edg_withLabel_1 rfl (by decide) rfl ?_
  refine zi_for (fun i => [some (.ref 0), some (.int x), some (.int (nI i))]) (fun _ => edgH m PL LB FR TO AT) 0 i (by omega) rfl rfl (fun j _ hj ih => ?_) ?_
  · refine zi_iload_n O d_Edg_withLabel_2 rfl ?_
    refine zi_aload_n O d_Edg_withLabel_3 rfl ?_
    refine zi_get O f_Edg_45 d_Edg_withLabel_4 rfl rfl ?_
    refine zi_icmp_geN O 28 d_Edg_withLabel_7 (by decide) (by omega) (by omega) (fun c7 => ?_) (fun c7 => ?_)
    · omega
    · refine zi_aload_n O d_Edg_withLabel_10 rfl ?_
      refine zi_get O f_Edg_15 d_Edg_withLabel_11 rfl rfl ?_
      refine zi_iload_n O d_Edg_withLabel_14 rfl ?_
      refine zi_iald O d_Edg_withLabel_15 rfl rfl (by omega) (Nat.le_of_ble_eq_true rfl) ?_
      refine zi_iload_n O d_Edg_withLabel_16 rfl ?_
      refine zi_icmp_ne O 22 d_Edg_withLabel_17 (by decide) (fun c17 => ?_) (fun c17 => ?_)
      · refine zi_iincN (ls' := _ :: _ :: some _ :: _) O 1 d_Edg_withLabel_22 rfl (by decide) rfl (by decide) rfl ?_
        refine zi_goto O 2 d_Edg_withLabel_25 (by decide) ?_
        exact ih
      · exact absurd c17 (hb j hj)
  · refine zi_iload_n O d_Edg_withLabel_2 rfl ?_
    refine zi_aload_n O d_Edg_withLabel_3 rfl ?_
    refine zi_get O f_Edg_45 d_Edg_withLabel_4 rfl rfl ?_
    refine zi_icmp_geN O 28 d_Edg_withLabel_7 (by decide) (by omega) (by omega) (fun c7 => ?_) (fun c7 => ?_)
    · omega
    · refine zi_aload_n O d_Edg_withLabel_10 rfl ?_
      refine zi_get O f_Edg_15 d_Edg_withLabel_11 rfl rfl ?_
      refine zi_iload_n O d_Edg_withLabel_14 rfl ?_
      refine zi_iald O d_Edg_withLabel_15 rfl rfl (by omega) (Nat.le_of_ble_eq_true rfl) ?_
      refine zi_iload_n O d_Edg_withLabel_16 rfl ?_
      refine zi_icmp_ne O 22 d_Edg_withLabel_17 (by decide) (fun c17 => ?_) (fun c17 => ?_)
      · exact absurd hx c17
      · refine zi_iload_n O d_Edg_withLabel_20 rfl ?_
        refine zi_iret O d_Edg_withLabel_21 (Nat.le_of_ble_eq_true rfl) (Nat.le_of_ble_eq_true rfl) (Nat.le_of_ble_eq_true rfl) ?_
        exact ⟨rfl, rfl⟩
theorem m_Edg_withLabel_no (m : Nat) (PL LB FR TO AT : Nat → Int32) (x : Int32) (hm : m ≤ 40) (hb : ∀ j, j < m → ¬ LB j = x) : zPu y_Edg_withLabel b_Edg_withLabel 3 (some .int) ⟨0, 0, 0, 0⟩ [.ref 0, .int x] (edgH m PL LB FR TO AT) (.int (-1)) := by
  refine zMet_of (plainFor_of_name (by decide +kernel)) rfl (Nat.le_of_ble_eq_true rfl) (fun z1 z2 z3 z4 z5 z6 z7 z8 z9 z10 z11 z12 z13 z14 O hin => ?_)
  refine zi_ls (ls' := [some (.ref 0), some (.int x), none]) rfl ?_
  refine zi_iconstN O 0 d_Edg_withLabel_0 (by decide) ?_
  refine zi_istore_n (ls' := _ :: _ :: some _ :: _) O d_Edg_withLabel_1 rfl (by decide) rfl ?_
  refine zi_for (fun i => [some (.ref 0), some (.int x), some (.int (nI i))]) (fun _ => edgH m PL LB FR TO AT) 0 m (by omega) rfl rfl (fun j _ hj ih => ?_) ?_
  · refine zi_iload_n O d_Edg_withLabel_2 rfl ?_
    refine zi_aload_n O d_Edg_withLabel_3 rfl ?_
    refine zi_get O f_Edg_45 d_Edg_withLabel_4 rfl rfl ?_
    refine zi_icmp_geN O 28 d_Edg_withLabel_7 (by decide) (by omega) (by omega) (fun c7 => ?_) (fun c7 => ?_)
    · omega
    · refine zi_aload_n O d_Edg_withLabel_10 rfl ?_
      refine zi_get O f_Edg_15 d_Edg_withLabel_11 rfl rfl ?_
      refine zi_iload_n O d_Edg_withLabel_14 rfl ?_
      refine zi_iald O d_Edg_withLabel_15 rfl rfl (by omega) (Nat.le_of_ble_eq_true rfl) ?_
      refine zi_iload_n O d_Edg_withLabel_16 rfl ?_
      refine zi_icmp_ne O 22 d_Edg_withLabel_17 (by decide) (fun c17 => ?_) (fun c17 => ?_)
      · refine zi_iincN (ls' := _ :: _ :: some _ :: _) O 1 d_Edg_withLabel_22 rfl (by decide) rfl (by decide) rfl ?_
        refine zi_goto O 2 d_Edg_withLabel_25 (by decide) ?_
        exact ih
      · exact absurd c17 (hb j hj)
  · refine zi_iload_n O d_Edg_withLabel_2 rfl ?_
    refine zi_aload_n O d_Edg_withLabel_3 rfl ?_
    refine zi_get O f_Edg_45 d_Edg_withLabel_4 rfl rfl ?_
    refine zi_icmp_geN O 28 d_Edg_withLabel_7 (by decide) (by omega) (by omega) (fun c7 => ?_) (fun c7 => ?_)
    · refine zi_iconst (v := -1) O d_Edg_withLabel_28 (by decide) ?_
      refine zi_iret O d_Edg_withLabel_29 (Nat.le_of_ble_eq_true rfl) (Nat.le_of_ble_eq_true rfl) (Nat.le_of_ble_eq_true rfl) ?_
      exact ⟨rfl, rfl⟩
    · omega
/-- the least number behind a that isn't among the first i labels -/
def fa (LB : Nat → Int32) (a : Nat) : Nat → Nat
  | 0 => a + 1
  | i + 1 => if LB i = nI (fa LB a i) then fa LB a i + 1 else fa LB a i
theorem m_Edg_freeAfter (m : Nat) (PL LB FR TO AT : Nat → Int32) (a : Nat) (hm : m ≤ 40) : zPu y_Edg_freeAfter b_Edg_freeAfter 4 (some .int) ⟨0, 0, 0, 0⟩ [.ref 0, .int (nI a)] (edgH m PL LB FR TO AT) (.int (nI (fa LB a m))) := by
  refine zMet_of (plainFor_of_name (by decide +kernel)) rfl (Nat.le_of_ble_eq_true rfl) (fun z1 z2 z3 z4 z5 z6 z7 z8 z9 z10 z11 z12 z13 z14 O hin => ?_)
  refine zi_ls (ls' := [some (.ref 0), some (.int (nI a)), none, none]) rfl ?_
  refine zi_iload_n O d_Edg_freeAfter_0 rfl ?_
  refine zi_iconstN O 1 d_Edg_freeAfter_1 (by decide) ?_
  first | refine zi_iaddN O d_Edg_freeAfter_2 ?_ | refine zi_iadd O d_Edg_freeAfter_2 ?_
  refine zi_istore_n (ls' := _ :: _ :: some _ :: _) O d_Edg_freeAfter_3 rfl (by decide) rfl ?_
  refine zi_iconstN O 0 d_Edg_freeAfter_4 (by decide) ?_
  refine zi_istore_n (ls' := _ :: _ :: _ :: some _ :: _) O d_Edg_freeAfter_5 rfl (by decide) rfl ?_
  refine zi_for (fun i => [some (.ref 0), some (.int (nI a)), some (.int (nI (fa LB a i))), some (.int (nI i))]) (fun _ => edgH m PL LB FR TO AT) 0 m (by omega) rfl rfl (fun j _ hj ih => ?_) ?_
  · refine zi_iload_n O d_Edg_freeAfter_6 rfl ?_
    refine zi_aload_n O d_Edg_freeAfter_7 rfl ?_
    refine zi_get O f_Edg_45 d_Edg_freeAfter_8 rfl rfl ?_
    refine zi_icmp_geN O 33 d_Edg_freeAfter_11 (by decide) (by omega) (by omega) (fun c11 => ?_) (fun c11 => ?_)
    · omega
    · refine zi_aload_n O d_Edg_freeAfter_14 rfl ?_
      refine zi_get O f_Edg_15 d_Edg_freeAfter_15 rfl rfl ?_
      refine zi_iload_n O d_Edg_freeAfter_18 rfl ?_
      refine zi_iald O d_Edg_freeAfter_19 rfl rfl (by omega) (Nat.le_of_ble_eq_true rfl) ?_
      refine zi_iload_n O d_Edg_freeAfter_20 rfl ?_
      refine zi_icmp_ne O 27 d_Edg_freeAfter_21 (by decide) (fun c21 => ?_) (fun c21 => ?_)
      · refine zi_iincN (ls' := _ :: _ :: _ :: some _ :: _) O 1 d_Edg_freeAfter_27 rfl (by decide) rfl (by decide) rfl ?_
        refine zi_goto O 6 d_Edg_freeAfter_30 (by decide) ?_
        rw [fa, if_neg c21] at ih
        exact ih
      · refine zi_iincN (ls' := _ :: _ :: some _ :: _) O 1 d_Edg_freeAfter_24 rfl (by decide) rfl (by decide) rfl ?_
        refine zi_iincN (ls' := _ :: _ :: _ :: some _ :: _) O 1 d_Edg_freeAfter_27 rfl (by decide) rfl (by decide) rfl ?_
        refine zi_goto O 6 d_Edg_freeAfter_30 (by decide) ?_
        rw [fa, if_pos c21] at ih
        exact ih
  · refine zi_iload_n O d_Edg_freeAfter_6 rfl ?_
    refine zi_aload_n O d_Edg_freeAfter_7 rfl ?_
    refine zi_get O f_Edg_45 d_Edg_freeAfter_8 rfl rfl ?_
    refine zi_icmp_geN O 33 d_Edg_freeAfter_11 (by decide) (by omega) (by omega) (fun c11 => ?_) (fun c11 => ?_)
    · refine zi_iload_n O d_Edg_freeAfter_33 rfl ?_
      refine zi_iret O d_Edg_freeAfter_34 (Nat.le_of_ble_eq_true rfl) (Nat.le_of_ble_eq_true rfl) (Nat.le_of_ble_eq_true rfl) ?_
      exact ⟨rfl, rfl⟩
    · omega
theorem m_Edg_signedLabel (m : Nat) (PL LB FR TO AT : Nat → Int32) (d : Nat) (hd : d < 80) : zPu y_Edg_signedLabel b_Edg_signedLabel 3 (some .int) ⟨0, 0, 0, 0⟩ [.ref 0, .int (nI d)] (edgH m PL LB FR TO AT) (.int (if d % 2 = 0 then LB (d / 2) else -(LB (d / 2)))) := by
  refine zMet_of (plainFor_of_name (by decide +kernel)) rfl (Nat.le_of_ble_eq_true rfl) (fun z1 z2 z3 z4 z5 z6 z7 z8 z9 z10 z11 z12 z13 z14 O hin => ?_)
  refine zi_ls (ls' := [some (.ref 0), some (.int (nI d)), none]) rfl ?_
  refine zi_aload_n O d_Edg_signedLabel_0 rfl ?_
  refine zi_get O f_Edg_15 d_Edg_signedLabel_1 rfl rfl ?_
  refine zi_iload_n O d_Edg_signedLabel_4 rfl ?_
  refine zi_iconstN O 1 d_Edg_signedLabel_5 (by decide) ?_
  first | refine zi_ishrN O 2 2 d_Edg_signedLabel_6 (by decide) (by omega) ?_ | refine zi_ishrN O 1 1 d_Edg_signedLabel_6 (by decide) (by omega) ?_
  refine zi_iald O d_Edg_signedLabel_7 rfl rfl (by omega) (Nat.le_of_ble_eq_true rfl) ?_
  refine zi_istore_n (ls' := _ :: _ :: some _ :: _) O d_Edg_signedLabel_8 rfl (by decide) rfl ?_
  refine zi_iload_n O d_Edg_signedLabel_9 rfl ?_
  refine zi_iconstN O 1 d_Edg_signedLabel_10 (by decide) ?_
  first | refine zi_iandN O 1 1 d_Edg_signedLabel_11 (by decide) (by omega) ?_ | refine zi_iandN O 3 2 d_Edg_signedLabel_11 (by decide) (by omega) ?_ | refine zi_iand O d_Edg_signedLabel_11 ?_
  refine zi_if_ne O 19 d_Edg_signedLabel_12 (by decide) (fun c12 => ?_) (fun c12 => ?_)
  · refine zi_iload_n O d_Edg_signedLabel_19 rfl ?_
    refine zi_ineg O d_Edg_signedLabel_20 ?_
    refine zi_iret O d_Edg_signedLabel_21 (Nat.le_of_ble_eq_true rfl) (Nat.le_of_ble_eq_true rfl) (Nat.le_of_ble_eq_true rfl) ?_
    exact ⟨by rw [if_neg (fun z => c12 (by rw [show d % 2 ^ 1 = 0 from z]; rfl))], rfl⟩
  · refine zi_iload_n O d_Edg_signedLabel_15 rfl ?_
    refine zi_goto O 21 d_Edg_signedLabel_16 (by decide) ?_
    refine zi_iret O d_Edg_signedLabel_21 (Nat.le_of_ble_eq_true rfl) (Nat.le_of_ble_eq_true rfl) (Nat.le_of_ble_eq_true rfl) ?_
    have h0 : d % 2 = 0 := by
      rcases Nat.mod_two_eq_zero_or_one d with q | q
      · exact q
      · exact absurd c12 (by rw [show d % 2 ^ 1 = 1 from q]; decide)
    exact ⟨by rw [if_pos h0], rfl⟩
theorem m_Edg_arrival (m : Nat) (PL LB FR TO AT : Nat → Int32) (d : Nat) (hd : d < 80) : zPu y_Edg_arrival b_Edg_arrival 2 (some .int) ⟨0, 0, 0, 0⟩ [.ref 0, .int (nI d)] (edgH m PL LB FR TO AT) (.int (if d % 2 = 0 then TO (d / 2) else FR (d / 2))) := by
  refine zMet_of (plainFor_of_name (by decide +kernel)) rfl (Nat.le_of_ble_eq_true rfl) (fun z1 z2 z3 z4 z5 z6 z7 z8 z9 z10 z11 z12 z13 z14 O hin => ?_)
  refine zi_ls (ls' := [some (.ref 0), some (.int (nI d))]) rfl ?_
  refine zi_iload_n O d_Edg_arrival_0 rfl ?_
  refine zi_iconstN O 1 d_Edg_arrival_1 (by decide) ?_
  first | refine zi_iandN O 1 1 d_Edg_arrival_2 (by decide) (by omega) ?_ | refine zi_iandN O 3 2 d_Edg_arrival_2 (by decide) (by omega) ?_ | refine zi_iand O d_Edg_arrival_2 ?_
  refine zi_if_ne O 17 d_Edg_arrival_3 (by decide) (fun c3 => ?_) (fun c3 => ?_)
  · refine zi_aload_n O d_Edg_arrival_17 rfl ?_
    refine zi_get O f_Edg_18 d_Edg_arrival_18 rfl rfl ?_
    refine zi_iload_n O d_Edg_arrival_21 rfl ?_
    refine zi_iconstN O 1 d_Edg_arrival_22 (by decide) ?_
    first | refine zi_ishrN O 2 2 d_Edg_arrival_23 (by decide) (by omega) ?_ | refine zi_ishrN O 1 1 d_Edg_arrival_23 (by decide) (by omega) ?_
    refine zi_iald O d_Edg_arrival_24 rfl rfl (by omega) (Nat.le_of_ble_eq_true rfl) ?_
    refine zi_iret O d_Edg_arrival_25 (Nat.le_of_ble_eq_true rfl) (Nat.le_of_ble_eq_true rfl) (Nat.le_of_ble_eq_true rfl) ?_
    exact ⟨by rw [if_neg (fun z => c3 (by rw [show d % 2 ^ 1 = 0 from z]; rfl))], rfl⟩
  · refine zi_aload_n O d_Edg_arrival_6 rfl ?_
    refine zi_get O f_Edg_21 d_Edg_arrival_7 rfl rfl ?_
    refine zi_iload_n O d_Edg_arrival_10 rfl ?_
    refine zi_iconstN O 1 d_Edg_arrival_11 (by decide) ?_
    first | refine zi_ishrN O 2 2 d_Edg_arrival_12 (by decide) (by omega) ?_ | refine zi_ishrN O 1 1 d_Edg_arrival_12 (by decide) (by omega) ?_
    refine zi_iald O d_Edg_arrival_13 rfl rfl (by omega) (Nat.le_of_ble_eq_true rfl) ?_
    refine zi_goto O 25 d_Edg_arrival_14 (by decide) ?_
    refine zi_iret O d_Edg_arrival_25 (Nat.le_of_ble_eq_true rfl) (Nat.le_of_ble_eq_true rfl) (Nat.le_of_ble_eq_true rfl) ?_
    have h0 : d % 2 = 0 := by
      rcases Nat.mod_two_eq_zero_or_one d with q | q
      · exact q
      · exact absurd c3 (by rw [show d % 2 ^ 1 = 1 from q]; decide)
    exact ⟨by rw [if_pos h0], rfl⟩
theorem m_Edg_dartLeaving (m : Nat) (PL LB FR TO AT : Nat → Int32) (q e : Nat) (hq : q < 80) (he : e < 40) (hA : AT q = nI e) : zPu y_Edg_dartLeaving b_Edg_dartLeaving 3 (some .int) ⟨0, 0, 0, 0⟩ [.ref 0, .int (nI q)] (edgH m PL LB FR TO AT) (.int (nI (if FR e = nI q then 2 * e else 2 * e + 1))) := by
  refine zMet_of (plainFor_of_name (by decide +kernel)) rfl (Nat.le_of_ble_eq_true rfl) (fun z1 z2 z3 z4 z5 z6 z7 z8 z9 z10 z11 z12 z13 z14 O hin => ?_)
  refine zi_ls (ls' := [some (.ref 0), some (.int (nI q)), none]) rfl ?_
  refine zi_aload_n O d_Edg_dartLeaving_0 rfl ?_
  refine zi_get O f_Edg_24 d_Edg_dartLeaving_1 rfl rfl ?_
  refine zi_iload_n O d_Edg_dartLeaving_4 rfl ?_
  refine zi_iald O d_Edg_dartLeaving_5 rfl rfl (by omega) (Nat.le_of_ble_eq_true rfl) ?_
  rw [hA]
  refine zi_istore_n (ls' := _ :: _ :: some _ :: _) O d_Edg_dartLeaving_6 rfl (by decide) rfl ?_
  refine zi_aload_n O d_Edg_dartLeaving_7 rfl ?_
  refine zi_get O f_Edg_18 d_Edg_dartLeaving_8 rfl rfl ?_
  refine zi_iload_n O d_Edg_dartLeaving_11 rfl ?_
  refine zi_iald O d_Edg_dartLeaving_12 rfl rfl (by omega) (Nat.le_of_ble_eq_true rfl) ?_
  refine zi_iload_n O d_Edg_dartLeaving_13 rfl ?_
  refine zi_icmp_ne O 23 d_Edg_dartLeaving_14 (by decide) (fun c14 => ?_) (fun c14 => ?_)
  · refine zi_iconstN O 2 d_Edg_dartLeaving_23 (by decide) ?_
    refine zi_iload_n O d_Edg_dartLeaving_24 rfl ?_
    first | refine zi_imulN O d_Edg_dartLeaving_25 ?_ | refine zi_imul O d_Edg_dartLeaving_25 ?_
    refine zi_iconstN O 1 d_Edg_dartLeaving_26 (by decide) ?_
    first | refine zi_iaddN O d_Edg_dartLeaving_27 ?_ | refine zi_iadd O d_Edg_dartLeaving_27 ?_
    refine zi_iret O d_Edg_dartLeaving_28 (Nat.le_of_ble_eq_true rfl) (Nat.le_of_ble_eq_true rfl) (Nat.le_of_ble_eq_true rfl) ?_
    exact ⟨by rw [if_neg c14], rfl⟩
  · refine zi_iconstN O 2 d_Edg_dartLeaving_17 (by decide) ?_
    refine zi_iload_n O d_Edg_dartLeaving_18 rfl ?_
    first | refine zi_imulN O d_Edg_dartLeaving_19 ?_ | refine zi_imul O d_Edg_dartLeaving_19 ?_
    refine zi_goto O 28 d_Edg_dartLeaving_20 (by decide) ?_
    refine zi_iret O d_Edg_dartLeaving_28 (Nat.le_of_ble_eq_true rfl) (Nat.le_of_ble_eq_true rfl) (Nat.le_of_ble_eq_true rfl) ?_
    exact ⟨by rw [if_pos c14], rfl⟩
theorem m_Edg_nextDart (m : Nat) (PL LB FR TO AT : Nat → Int32) (d q e : Nat) (hd : d < 80) (hq : q < 80) (he : e < 40) (hQ : (if d % 2 = 0 then TO (d / 2) else FR (d / 2)) = nI q) (hA : AT (4 * (q / 4) + (q + 3) % 4) = nI e) : zPu y_Edg_nextDart b_Edg_nextDart 4 (some .int) ⟨1, 0, 0, 24⟩ [.ref 0, .int (nI d)] (edgH m PL LB FR TO AT) (.int (nI (if FR e = nI (4 * (q / 4) + (q + 3) % 4) then 2 * e else 2 * e + 1))) := by
  refine zMet_of (plainFor_of_name (by decide +kernel)) rfl (Nat.le_of_ble_eq_true rfl) (fun z1 z2 z3 z4 z5 z6 z7 z8 z9 z10 z11 z12 z13 z14 O hin => ?_)
  refine zi_ls (ls' := [some (.ref 0), some (.int (nI d)), none, none]) rfl ?_
  refine zi_aload_n O d_Edg_nextDart_0 rfl ?_
  refine zi_iload_n O d_Edg_nextDart_1 rfl ?_
  refine zi_pureV O [0, 1, 2, 3, 4, 5] c_Edg_50 k_Edg_arrival (m_Edg_arrival m PL LB FR TO AT d hd) d_Edg_nextDart_2 ⟨(Nat.le_of_ble_eq_true rfl), (Nat.le_of_ble_eq_true rfl)⟩ ⟨(Nat.le_of_ble_eq_true rfl), (Nat.le_of_ble_eq_true rfl)⟩ rfl rfl (Nat.le_of_ble_eq_true rfl) rfl rfl rfl rfl rfl (Nat.le_of_ble_eq_true rfl) rfl ?_
  rw [hQ]
  refine zi_istore_n (ls' := _ :: _ :: some _ :: _) O d_Edg_nextDart_5 rfl (by decide) rfl ?_
  refine zi_iload_n O d_Edg_nextDart_6 rfl ?_
  refine zi_iconstN O 2 d_Edg_nextDart_7 (by decide) ?_
  first | refine zi_ishrN O 2 2 d_Edg_nextDart_8 (by decide) (by omega) ?_ | refine zi_ishrN O 1 1 d_Edg_nextDart_8 (by decide) (by omega) ?_
  refine zi_istore_n (ls' := _ :: _ :: _ :: some _ :: _) O d_Edg_nextDart_9 rfl (by decide) rfl ?_
  refine zi_aload_n O d_Edg_nextDart_10 rfl ?_
  refine zi_iconstN O 4 d_Edg_nextDart_11 (by decide) ?_
  refine zi_iload_n O d_Edg_nextDart_12 rfl ?_
  first | refine zi_imulN O d_Edg_nextDart_13 ?_ | refine zi_imul O d_Edg_nextDart_13 ?_
  refine zi_iload_n O d_Edg_nextDart_14 rfl ?_
  refine zi_iconstN O 3 d_Edg_nextDart_15 (by decide) ?_
  first | refine zi_iaddN O d_Edg_nextDart_16 ?_ | refine zi_iadd O d_Edg_nextDart_16 ?_
  refine zi_iconstN O 3 d_Edg_nextDart_17 (by decide) ?_
  first | refine zi_iandN O 1 1 d_Edg_nextDart_18 (by decide) (by omega) ?_ | refine zi_iandN O 3 2 d_Edg_nextDart_18 (by decide) (by omega) ?_ | refine zi_iand O d_Edg_nextDart_18 ?_
  first | refine zi_iaddN O d_Edg_nextDart_19 ?_ | refine zi_iadd O d_Edg_nextDart_19 ?_
  refine zi_pureV O [0, 1, 2, 3, 4, 5] c_Edg_54 k_Edg_dartLeaving (m_Edg_dartLeaving m PL LB FR TO AT (4 * (q / 4) + (q + 3) % 4) e (by omega) he hA) d_Edg_nextDart_20 ⟨(Nat.le_of_ble_eq_true rfl), (Nat.le_of_ble_eq_true rfl)⟩ ⟨(Nat.le_of_ble_eq_true rfl), (Nat.le_of_ble_eq_true rfl)⟩ rfl rfl (Nat.le_of_ble_eq_true rfl) rfl rfl rfl rfl rfl (Nat.le_of_ble_eq_true rfl) rfl ?_
  refine zi_iret O d_Edg_nextDart_23 (Nat.le_of_ble_eq_true rfl) (Nat.le_of_ble_eq_true rfl) (Nat.le_of_ble_eq_true rfl) ?_
  exact ⟨rfl, rfl⟩
theorem m_Edg_upperEnds (m : Nat) (PL LB FR TO AT : Nat → Int32) (e f t : Nat) (he : e < 40) (hf : FR e = nI f) (ht : TO e = nI t) (hf2 : f < 80) (ht2 : t < 80) : zPu y_Edg_upperEnds b_Edg_upperEnds 2 (some .int) ⟨0, 0, 0, 0⟩ [.ref 0, .int (nI e)] (edgH m PL LB FR TO AT) (.int (nI (f % 2 + t % 2))) := by
  refine zMet_of (plainFor_of_name (by decide +kernel)) rfl (Nat.le_of_ble_eq_true rfl) (fun z1 z2 z3 z4 z5 z6 z7 z8 z9 z10 z11 z12 z13 z14 O hin => ?_)
  refine zi_ls (ls' := [some (.ref 0), some (.int (nI e))]) rfl ?_
  refine zi_aload_n O d_Edg_upperEnds_0 rfl ?_
  refine zi_get O f_Edg_18 d_Edg_upperEnds_1 rfl rfl ?_
  refine zi_iload_n O d_Edg_upperEnds_4 rfl ?_
  refine zi_iald O d_Edg_upperEnds_5 rfl rfl (by omega) (Nat.le_of_ble_eq_true rfl) ?_
  rw [hf]
  refine zi_iconstN O 1 d_Edg_upperEnds_6 (by decide) ?_
  first | refine zi_iandN O 1 1 d_Edg_upperEnds_7 (by decide) (by omega) ?_ | refine zi_iandN O 3 2 d_Edg_upperEnds_7 (by decide) (by omega) ?_ | refine zi_iand O d_Edg_upperEnds_7 ?_
  refine zi_aload_n O d_Edg_upperEnds_8 rfl ?_
  refine zi_get O f_Edg_21 d_Edg_upperEnds_9 rfl rfl ?_
  refine zi_iload_n O d_Edg_upperEnds_12 rfl ?_
  refine zi_iald O d_Edg_upperEnds_13 rfl rfl (by omega) (Nat.le_of_ble_eq_true rfl) ?_
  rw [ht]
  refine zi_iconstN O 1 d_Edg_upperEnds_14 (by decide) ?_
  first | refine zi_iandN O 1 1 d_Edg_upperEnds_15 (by decide) (by omega) ?_ | refine zi_iandN O 3 2 d_Edg_upperEnds_15 (by decide) (by omega) ?_ | refine zi_iand O d_Edg_upperEnds_15 ?_
  first | refine zi_iaddN O d_Edg_upperEnds_16 ?_ | refine zi_iadd O d_Edg_upperEnds_16 ?_
  refine zi_iret O d_Edg_upperEnds_17 (Nat.le_of_ble_eq_true rfl) (Nat.le_of_ble_eq_true rfl) (Nat.le_of_ble_eq_true rfl) ?_
  exact ⟨rfl, rfl⟩
