/-! the constructors -/
abbrev z0 : Nat → Int32 := fun _ => 0
theorem m_Row_init : zMet y_Row_init b_Row_init 1 none ⟨1, 2, 100, 20⟩ [.ref 0] [zo 2 [.null, .null, .int 0]] (fun r h' => r = none ∧ h' = rowH 0 z0 z0) := by
  refine zMet_of (plainFor_of_name (by decide +kernel)) rfl (Nat.le_of_ble_eq_true rfl) (fun z1 z2 z3 z4 z5 z6 z7 z8 z9 z10 z11 z12 z13 z14 O hin => ?_)
  refine zi_ls (ls' := [some (.ref 0)]) rfl ?_
  refine zi_aload_n O d_Row_init_0 rfl ?_
  refine zi_objInit O d_Row_init_1 z_o_Row z_oI z_oC (Nat.le_of_ble_eq_true rfl) (Nat.le_of_ble_eq_true rfl) ?_
  refine zi_aload_n O d_Row_init_4 rfl ?_
  refine zi_bipushN O 80 d_Row_init_5 (by decide) ?_
  refine zi_newa O d_Row_init_7 z_ar rfl (by decide) (Nat.le_of_ble_eq_true rfl) (Nat.le_of_ble_eq_true rfl) rfl rfl rfl (Nat.le_of_ble_eq_true rfl) ?_
  dsimp only [List.cons_append, List.nil_append]
  refine zi_putF O hin f_Row_9 d_Row_init_9 rfl rfl (Nat.le_of_ble_eq_true rfl) (fun _ => rfl) (fun _ => rfl) (by dsimp only [List.set]) ?_
  refine zi_aload_n O d_Row_init_12 rfl ?_
  refine zi_bipushN O 20 d_Row_init_13 (by decide) ?_
  refine zi_newa O d_Row_init_15 z_ar rfl (by decide) (Nat.le_of_ble_eq_true rfl) (Nat.le_of_ble_eq_true rfl) rfl rfl rfl (Nat.le_of_ble_eq_true rfl) ?_
  dsimp only [List.cons_append, List.nil_append]
  refine zi_putF O hin f_Row_15 d_Row_init_17 rfl rfl (Nat.le_of_ble_eq_true rfl) (fun _ => rfl) (fun _ => rfl) (by dsimp only [List.set]) ?_
  refine zi_vret O d_Row_init_20 (Nat.le_of_ble_eq_true rfl) (Nat.le_of_ble_eq_true rfl) (Nat.le_of_ble_eq_true rfl) ?_
  exact ⟨rfl, rfl⟩
theorem m_Edg_init : zMet y_Edg_init b_Edg_init 1 none ⟨1, 5, 280, 20⟩ [.ref 0] [zo 3 [.null, .null, .null, .null, .null, .int 0]] (fun r h' => r = none ∧ h' = edgH 0 z0 z0 z0 z0 z0) := by
  refine zMet_of (plainFor_of_name (by decide +kernel)) rfl (Nat.le_of_ble_eq_true rfl) (fun z1 z2 z3 z4 z5 z6 z7 z8 z9 z10 z11 z12 z13 z14 O hin => ?_)
  refine zi_ls (ls' := [some (.ref 0)]) rfl ?_
  refine zi_aload_n O d_Edg_init_0 rfl ?_
  refine zi_objInit O d_Edg_init_1 z_o_Edg z_oI z_oC (Nat.le_of_ble_eq_true rfl) (Nat.le_of_ble_eq_true rfl) ?_
  refine zi_aload_n O d_Edg_init_4 rfl ?_
  refine zi_bipushN O 80 d_Edg_init_5 (by decide) ?_
  refine zi_newa O d_Edg_init_7 z_ar rfl (by decide) (Nat.le_of_ble_eq_true rfl) (Nat.le_of_ble_eq_true rfl) rfl rfl rfl (Nat.le_of_ble_eq_true rfl) ?_
  dsimp only [List.cons_append, List.nil_append]
  refine zi_putF O hin f_Edg_9 d_Edg_init_9 rfl rfl (Nat.le_of_ble_eq_true rfl) (fun _ => rfl) (fun _ => rfl) (by dsimp only [List.set]) ?_
  refine zi_aload_n O d_Edg_init_12 rfl ?_
  refine zi_bipushN O 40 d_Edg_init_13 (by decide) ?_
  refine zi_newa O d_Edg_init_15 z_ar rfl (by decide) (Nat.le_of_ble_eq_true rfl) (Nat.le_of_ble_eq_true rfl) rfl rfl rfl (Nat.le_of_ble_eq_true rfl) ?_
  dsimp only [List.cons_append, List.nil_append]
  refine zi_putF O hin f_Edg_15 d_Edg_init_17 rfl rfl (Nat.le_of_ble_eq_true rfl) (fun _ => rfl) (fun _ => rfl) (by dsimp only [List.set]) ?_
  refine zi_aload_n O d_Edg_init_20 rfl ?_
  refine zi_bipushN O 40 d_Edg_init_21 (by decide) ?_
  refine zi_newa O d_Edg_init_23 z_ar rfl (by decide) (Nat.le_of_ble_eq_true rfl) (Nat.le_of_ble_eq_true rfl) rfl rfl rfl (Nat.le_of_ble_eq_true rfl) ?_
  dsimp only [List.cons_append, List.nil_append]
  refine zi_putF O hin f_Edg_18 d_Edg_init_25 rfl rfl (Nat.le_of_ble_eq_true rfl) (fun _ => rfl) (fun _ => rfl) (by dsimp only [List.set]) ?_
  refine zi_aload_n O d_Edg_init_28 rfl ?_
  refine zi_bipushN O 40 d_Edg_init_29 (by decide) ?_
  refine zi_newa O d_Edg_init_31 z_ar rfl (by decide) (Nat.le_of_ble_eq_true rfl) (Nat.le_of_ble_eq_true rfl) rfl rfl rfl (Nat.le_of_ble_eq_true rfl) ?_
  dsimp only [List.cons_append, List.nil_append]
  refine zi_putF O hin f_Edg_21 d_Edg_init_33 rfl rfl (Nat.le_of_ble_eq_true rfl) (fun _ => rfl) (fun _ => rfl) (by dsimp only [List.set]) ?_
  refine zi_aload_n O d_Edg_init_36 rfl ?_
  refine zi_bipushN O 80 d_Edg_init_37 (by decide) ?_
  refine zi_newa O d_Edg_init_39 z_ar rfl (by decide) (Nat.le_of_ble_eq_true rfl) (Nat.le_of_ble_eq_true rfl) rfl rfl rfl (Nat.le_of_ble_eq_true rfl) ?_
  dsimp only [List.cons_append, List.nil_append]
  refine zi_putF O hin f_Edg_24 d_Edg_init_41 rfl rfl (Nat.le_of_ble_eq_true rfl) (fun _ => rfl) (fun _ => rfl) (by dsimp only [List.set]) ?_
  refine zi_vret O d_Edg_init_44 (Nat.le_of_ble_eq_true rfl) (Nat.le_of_ble_eq_true rfl) (Nat.le_of_ble_eq_true rfl) ?_
  exact ⟨rfl, rfl⟩
theorem m_Fac_init : zMet y_Fac_init b_Fac_init 1 none ⟨1, 3, 241, 20⟩ [.ref 0] [zo 4 [.null, .null, .null, .int 0]] (fun r h' => r = none ∧ h' = facH 0 z0 z0 z0) := by
  refine zMet_of (plainFor_of_name (by decide +kernel)) rfl (Nat.le_of_ble_eq_true rfl) (fun z1 z2 z3 z4 z5 z6 z7 z8 z9 z10 z11 z12 z13 z14 O hin => ?_)
  refine zi_ls (ls' := [some (.ref 0)]) rfl ?_
  refine zi_aload_n O d_Fac_init_0 rfl ?_
  refine zi_objInit O d_Fac_init_1 z_o_Fac z_oI z_oC (Nat.le_of_ble_eq_true rfl) (Nat.le_of_ble_eq_true rfl) ?_
  refine zi_aload_n O d_Fac_init_4 rfl ?_
  refine zi_bipushN O 80 d_Fac_init_5 (by decide) ?_
  refine zi_newa O d_Fac_init_7 z_ar rfl (by decide) (Nat.le_of_ble_eq_true rfl) (Nat.le_of_ble_eq_true rfl) rfl rfl rfl (Nat.le_of_ble_eq_true rfl) ?_
  dsimp only [List.cons_append, List.nil_append]
  refine zi_putF O hin f_Fac_9 d_Fac_init_9 rfl rfl (Nat.le_of_ble_eq_true rfl) (fun _ => rfl) (fun _ => rfl) (by dsimp only [List.set]) ?_
  refine zi_aload_n O d_Fac_init_12 rfl ?_
  refine zi_bipushN O 80 d_Fac_init_13 (by decide) ?_
  refine zi_newa O d_Fac_init_15 z_ar rfl (by decide) (Nat.le_of_ble_eq_true rfl) (Nat.le_of_ble_eq_true rfl) rfl rfl rfl (Nat.le_of_ble_eq_true rfl) ?_
  dsimp only [List.cons_append, List.nil_append]
  refine zi_putF O hin f_Fac_15 d_Fac_init_17 rfl rfl (Nat.le_of_ble_eq_true rfl) (fun _ => rfl) (fun _ => rfl) (by dsimp only [List.set]) ?_
  refine zi_aload_n O d_Fac_init_20 rfl ?_
  refine zi_bipushN O 81 d_Fac_init_21 (by decide) ?_
  refine zi_newa O d_Fac_init_23 z_ar rfl (by decide) (Nat.le_of_ble_eq_true rfl) (Nat.le_of_ble_eq_true rfl) rfl rfl rfl (Nat.le_of_ble_eq_true rfl) ?_
  dsimp only [List.cons_append, List.nil_append]
  refine zi_putF O hin f_Fac_18 d_Fac_init_25 rfl rfl (Nat.le_of_ble_eq_true rfl) (fun _ => rfl) (fun _ => rfl) (by dsimp only [List.set]) ?_
  refine zi_vret O d_Fac_init_28 (Nat.le_of_ble_eq_true rfl) (Nat.le_of_ble_eq_true rfl) (Nat.le_of_ble_eq_true rfl) ?_
  exact ⟨rfl, rfl⟩
theorem m_Pie_init : zMet y_Pie_init b_Pie_init 1 none ⟨1, 2, 60, 20⟩ [.ref 0] [zo 5 [.null, .null, .int 0, .int 0]] (fun r h' => r = none ∧ h' = pieH 0 0 z0 z0) := by
  refine zMet_of (plainFor_of_name (by decide +kernel)) rfl (Nat.le_of_ble_eq_true rfl) (fun z1 z2 z3 z4 z5 z6 z7 z8 z9 z10 z11 z12 z13 z14 O hin => ?_)
  refine zi_ls (ls' := [some (.ref 0)]) rfl ?_
  refine zi_aload_n O d_Pie_init_0 rfl ?_
  refine zi_objInit O d_Pie_init_1 z_o_Pie z_oI z_oC (Nat.le_of_ble_eq_true rfl) (Nat.le_of_ble_eq_true rfl) ?_
  refine zi_aload_n O d_Pie_init_4 rfl ?_
  refine zi_bipushN O 20 d_Pie_init_5 (by decide) ?_
  refine zi_newa O d_Pie_init_7 z_ar rfl (by decide) (Nat.le_of_ble_eq_true rfl) (Nat.le_of_ble_eq_true rfl) rfl rfl rfl (Nat.le_of_ble_eq_true rfl) ?_
  dsimp only [List.cons_append, List.nil_append]
  refine zi_putF O hin f_Pie_9 d_Pie_init_9 rfl rfl (Nat.le_of_ble_eq_true rfl) (fun _ => rfl) (fun _ => rfl) (by dsimp only [List.set]) ?_
  refine zi_aload_n O d_Pie_init_12 rfl ?_
  refine zi_bipushN O 40 d_Pie_init_13 (by decide) ?_
  refine zi_newa O d_Pie_init_15 z_ar rfl (by decide) (Nat.le_of_ble_eq_true rfl) (Nat.le_of_ble_eq_true rfl) rfl rfl rfl (Nat.le_of_ble_eq_true rfl) ?_
  dsimp only [List.cons_append, List.nil_append]
  refine zi_putF O hin f_Pie_15 d_Pie_init_17 rfl rfl (Nat.le_of_ble_eq_true rfl) (fun _ => rfl) (fun _ => rfl) (by dsimp only [List.set]) ?_
  refine zi_vret O d_Pie_init_20 (Nat.le_of_ble_eq_true rfl) (Nat.le_of_ble_eq_true rfl) (Nat.le_of_ble_eq_true rfl) ?_
  exact ⟨rfl, rfl⟩
abbrev dia0 : List zE := diaH 0 0 z0 z0 0 z0 z0 z0 z0 z0 0 z0 z0 z0 0 0 z0 z0 z0
set_option maxHeartbeats 1000000 in
theorem m_Dia_init : zMet y_Dia_init b_Dia_init 1 none ⟨2, 17, 778, 45⟩ [.ref 0] [zo 1 [.null, .null, .null, .null, .null, .int 0]] (fun r h' => r = none ∧ h' = dia0) := by
  refine zMet_of (plainFor_of_name (by decide +kernel)) rfl (Nat.le_of_ble_eq_true rfl) (fun z1 z2 z3 z4 z5 z6 z7 z8 z9 z10 z11 z12 z13 z14 O hin => ?_)
  refine zi_ls (ls' := [some (.ref 0)]) rfl ?_
  refine zi_aload_n O d_Dia_init_0 rfl ?_
  refine zi_objInit O d_Dia_init_1 z_o_Dia z_oI z_oC (Nat.le_of_ble_eq_true rfl) (Nat.le_of_ble_eq_true rfl) ?_
  refine zi_aload_n O d_Dia_init_4 rfl ?_
  refine zi_new (ci := 2) (fs := [.null, .null, .int 0]) (ty := t_Row) O d_Dia_init_5 rfl i_Row t_Row_ok z_cl_Dia_9 z_in_Row z_ini_Row (by decide) rfl (Nat.le_of_ble_eq_true rfl) (Nat.le_of_ble_eq_true rfl) rfl rfl rfl (Nat.le_of_ble_eq_true rfl) ?_
  dsimp only [List.cons_append, List.nil_append]
  refine zi_dup O d_Dia_init_8 rfl ?_
  refine zi_callI O [1] c_Dia_11 k_Row_init m_Row_init d_Dia_init_9 ⟨(Nat.le_of_ble_eq_true rfl), (Nat.le_of_ble_eq_true rfl)⟩ ⟨(Nat.le_of_ble_eq_true rfl), (Nat.le_of_ble_eq_true rfl)⟩ rfl (Nat.le_of_ble_eq_true rfl) rfl rfl rfl rfl rfl (Nat.le_of_ble_eq_true rfl) rfl (fun r h' hq hl => ?_)
  obtain ⟨rfl, rfl⟩ := hq
  refine zi_st (st' := [.ref 1, .ref 0]) rfl (zi_h (h' := [zo 1 [.null, .null, .null, .null, .null, .int 0], zo 2 [.ref 2, .ref 3, .int 0], za 80 z0, za 20 z0]) rfl ?_)
  refine zi_putF O hin f_Dia_12 d_Dia_init_12 rfl rfl (Nat.le_of_ble_eq_true rfl) (fun _ => rfl) (fun _ => rfl) (by dsimp only [List.set]) ?_
  refine zi_aload_n O d_Dia_init_15 rfl ?_
  refine zi_new (ci := 3) (fs := [.null, .null, .null, .null, .null, .int 0]) (ty := t_Edg) O d_Dia_init_16 rfl i_Edg t_Edg_ok z_cl_Dia_18 z_in_Edg z_ini_Edg (by decide) rfl (Nat.le_of_ble_eq_true rfl) (Nat.le_of_ble_eq_true rfl) rfl rfl rfl (Nat.le_of_ble_eq_true rfl) ?_
  dsimp only [List.cons_append, List.nil_append]
  refine zi_dup O d_Dia_init_19 rfl ?_
  refine zi_callI O [4] c_Dia_20 k_Edg_init m_Edg_init d_Dia_init_20 ⟨(Nat.le_of_ble_eq_true rfl), (Nat.le_of_ble_eq_true rfl)⟩ ⟨(Nat.le_of_ble_eq_true rfl), (Nat.le_of_ble_eq_true rfl)⟩ rfl (Nat.le_of_ble_eq_true rfl) rfl rfl rfl rfl rfl (Nat.le_of_ble_eq_true rfl) rfl (fun r h' hq hl => ?_)
  obtain ⟨rfl, rfl⟩ := hq
  refine zi_st (st' := [.ref 4, .ref 0]) rfl (zi_h (h' := [zo 1 [.ref 1, .null, .null, .null, .null, .int 0], zo 2 [.ref 2, .ref 3, .int 0], za 80 z0, za 20 z0, zo 3 [.ref 5, .ref 6, .ref 7, .ref 8, .ref 9, .int 0], za 80 z0, za 40 z0, za 40 z0, za 40 z0, za 80 z0]) rfl ?_)
  refine zi_putF O hin f_Dia_21 d_Dia_init_23 rfl rfl (Nat.le_of_ble_eq_true rfl) (fun _ => rfl) (fun _ => rfl) (by dsimp only [List.set]) ?_
  refine zi_aload_n O d_Dia_init_26 rfl ?_
  refine zi_new (ci := 4) (fs := [.null, .null, .null, .int 0]) (ty := t_Fac) O d_Dia_init_27 rfl i_Fac t_Fac_ok z_cl_Dia_25 z_in_Fac z_ini_Fac (by decide) rfl (Nat.le_of_ble_eq_true rfl) (Nat.le_of_ble_eq_true rfl) rfl rfl rfl (Nat.le_of_ble_eq_true rfl) ?_
  dsimp only [List.cons_append, List.nil_append]
  refine zi_dup O d_Dia_init_30 rfl ?_
  refine zi_callI O [10] c_Dia_27 k_Fac_init m_Fac_init d_Dia_init_31 ⟨(Nat.le_of_ble_eq_true rfl), (Nat.le_of_ble_eq_true rfl)⟩ ⟨(Nat.le_of_ble_eq_true rfl), (Nat.le_of_ble_eq_true rfl)⟩ rfl (Nat.le_of_ble_eq_true rfl) rfl rfl rfl rfl rfl (Nat.le_of_ble_eq_true rfl) rfl (fun r h' hq hl => ?_)
  obtain ⟨rfl, rfl⟩ := hq
  refine zi_st (st' := [.ref 10, .ref 0]) rfl (zi_h (h' := [zo 1 [.ref 1, .ref 4, .null, .null, .null, .int 0], zo 2 [.ref 2, .ref 3, .int 0], za 80 z0, za 20 z0, zo 3 [.ref 5, .ref 6, .ref 7, .ref 8, .ref 9, .int 0], za 80 z0, za 40 z0, za 40 z0, za 40 z0, za 80 z0, zo 4 [.ref 11, .ref 12, .ref 13, .int 0], za 80 z0, za 80 z0, za 81 z0]) rfl ?_)
  refine zi_putF O hin f_Dia_28 d_Dia_init_34 rfl rfl (Nat.le_of_ble_eq_true rfl) (fun _ => rfl) (fun _ => rfl) (by dsimp only [List.set]) ?_
  refine zi_aload_n O d_Dia_init_37 rfl ?_
  refine zi_new (ci := 5) (fs := [.null, .null, .int 0, .int 0]) (ty := t_Pie) O d_Dia_init_38 rfl i_Pie t_Pie_ok z_cl_Dia_32 z_in_Pie z_ini_Pie (by decide) rfl (Nat.le_of_ble_eq_true rfl) (Nat.le_of_ble_eq_true rfl) rfl rfl rfl (Nat.le_of_ble_eq_true rfl) ?_
  dsimp only [List.cons_append, List.nil_append]
  refine zi_dup O d_Dia_init_41 rfl ?_
  refine zi_callI O [14] c_Dia_34 k_Pie_init m_Pie_init d_Dia_init_42 ⟨(Nat.le_of_ble_eq_true rfl), (Nat.le_of_ble_eq_true rfl)⟩ ⟨(Nat.le_of_ble_eq_true rfl), (Nat.le_of_ble_eq_true rfl)⟩ rfl (Nat.le_of_ble_eq_true rfl) rfl rfl rfl rfl rfl (Nat.le_of_ble_eq_true rfl) rfl (fun r h' hq hl => ?_)
  obtain ⟨rfl, rfl⟩ := hq
  refine zi_st (st' := [.ref 14, .ref 0]) rfl (zi_h (h' := [zo 1 [.ref 1, .ref 4, .ref 10, .null, .null, .int 0], zo 2 [.ref 2, .ref 3, .int 0], za 80 z0, za 20 z0, zo 3 [.ref 5, .ref 6, .ref 7, .ref 8, .ref 9, .int 0], za 80 z0, za 40 z0, za 40 z0, za 40 z0, za 80 z0, zo 4 [.ref 11, .ref 12, .ref 13, .int 0], za 80 z0, za 80 z0, za 81 z0, zo 5 [.ref 15, .ref 16, .int 0, .int 0], za 20 z0, za 40 z0]) rfl ?_)
  refine zi_putF O hin f_Dia_35 d_Dia_init_45 rfl rfl (Nat.le_of_ble_eq_true rfl) (fun _ => rfl) (fun _ => rfl) (by dsimp only [List.set]) ?_
  refine zi_aload_n O d_Dia_init_48 rfl ?_
  refine zi_bipushN O 80 d_Dia_init_49 (by decide) ?_
  refine zi_newa O d_Dia_init_51 z_ar rfl (by decide) (Nat.le_of_ble_eq_true rfl) (Nat.le_of_ble_eq_true rfl) rfl rfl rfl (Nat.le_of_ble_eq_true rfl) ?_
  dsimp only [List.cons_append, List.nil_append]
  refine zi_putF O hin f_Dia_39 d_Dia_init_53 rfl rfl (Nat.le_of_ble_eq_true rfl) (fun _ => rfl) (fun _ => rfl) (by dsimp only [List.set]) ?_
  refine zi_vret O d_Dia_init_56 (Nat.le_of_ble_eq_true rfl) (Nat.le_of_ble_eq_true rfl) (Nat.le_of_ble_eq_true rfl) ?_
  exact ⟨rfl, rfl⟩
set_option maxHeartbeats 1000000 in
theorem m_Mov_init : zMet y_Mov_init b_Mov_init 1 none ⟨3, 36, 1568, 70⟩ [.ref 0] [zo 0 [.null, .null]] (fun r h' => r = none ∧ h' = movH 1 19 dia0 dia0) := by
  refine zMet_of (plainFor_of_name (by decide +kernel)) rfl (Nat.le_of_ble_eq_true rfl) (fun z1 z2 z3 z4 z5 z6 z7 z8 z9 z10 z11 z12 z13 z14 O hin => ?_)
  refine zi_ls (ls' := [some (.ref 0)]) rfl ?_
  refine zi_aload_n O d_Mov_init_0 rfl ?_
  refine zi_objInit O d_Mov_init_1 z_o_Mov z_oI z_oC (Nat.le_of_ble_eq_true rfl) (Nat.le_of_ble_eq_true rfl) ?_
  refine zi_aload_n O d_Mov_init_4 rfl ?_
  refine zi_new (ci := 1) (fs := [.null, .null, .null, .null, .null, .int 0]) (ty := t_Dia) O d_Mov_init_5 rfl i_Dia t_Dia_ok z_cl_Mov_9 z_in_Dia z_ini_Dia (by decide) rfl (Nat.le_of_ble_eq_true rfl) (Nat.le_of_ble_eq_true rfl) rfl rfl rfl (Nat.le_of_ble_eq_true rfl) ?_
  dsimp only [List.cons_append, List.nil_append]
  refine zi_dup O d_Mov_init_8 rfl ?_
  refine zi_callI O [1] c_Mov_11 k_Dia_init m_Dia_init d_Mov_init_9 ⟨(Nat.le_of_ble_eq_true rfl), (Nat.le_of_ble_eq_true rfl)⟩ ⟨(Nat.le_of_ble_eq_true rfl), (Nat.le_of_ble_eq_true rfl)⟩ rfl (Nat.le_of_ble_eq_true rfl) rfl rfl rfl rfl rfl (Nat.le_of_ble_eq_true rfl) rfl (fun r h' hq hl => ?_)
  obtain ⟨rfl, rfl⟩ := hq
  refine zi_st (st' := [.ref 1, .ref 0]) rfl (zi_h (h' := zo 0 [.null, .null] :: (dia0.map (zc (fun q => q + 1)))) rfl ?_)
  refine zi_put (h' := zo 0 [.ref 1, .null] :: (dia0.map (zc (fun q => q + 1)))) O f_Mov_12 d_Mov_init_12 rfl (Nat.le_of_ble_eq_true rfl) (fun _ => rfl) (fun _ => rfl) rfl ?_
  refine zi_aload_n O d_Mov_init_15 rfl ?_
  refine zi_new (ci := 1) (fs := [.null, .null, .null, .null, .null, .int 0]) (ty := t_Dia) O d_Mov_init_16 rfl i_Dia t_Dia_ok z_cl_Mov_9 z_in_Dia z_ini_Dia (by decide) rfl (Nat.le_of_ble_eq_true rfl) (Nat.le_of_ble_eq_true rfl) rfl rfl rfl (Nat.le_of_ble_eq_true rfl) ?_
  dsimp only [List.cons_append, List.nil_append]
  refine zi_dup O d_Mov_init_19 rfl ?_
  refine zi_callI O [19] c_Mov_11 k_Dia_init m_Dia_init d_Mov_init_20 ⟨(Nat.le_of_ble_eq_true rfl), (Nat.le_of_ble_eq_true rfl)⟩ ⟨(Nat.le_of_ble_eq_true rfl), (Nat.le_of_ble_eq_true rfl)⟩ rfl (Nat.le_of_ble_eq_true rfl) rfl rfl rfl rfl rfl (Nat.le_of_ble_eq_true rfl) rfl (fun r h' hq hl => ?_)
  obtain ⟨rfl, rfl⟩ := hq
  refine zi_st (st' := [.ref 19, .ref 0]) rfl (zi_h (h' := zo 0 [.ref 1, .null] :: (dia0.map (zc (fun q => q + 1)) ++ dia0.map (zc (fun q => q + 19)))) rfl ?_)
  refine zi_put (h' := movH 1 19 dia0 dia0) O f_Mov_16 d_Mov_init_23 rfl (Nat.le_of_ble_eq_true rfl) (fun _ => rfl) (fun _ => rfl) rfl ?_
  refine zi_vret O d_Mov_init_26 (Nat.le_of_ble_eq_true rfl) (Nat.le_of_ble_eq_true rfl) (Nat.le_of_ble_eq_true rfl) ?_
  exact ⟨rfl, rfl⟩
theorem dr_0 : Dr 0 (fun _ => 0) z0 0 dia0 := ⟨_, _, _, _, _, _, _, _, _, _, _, _, _, _, _, _, rfl, ⟨by omega, fun q hq => absurd hq (by omega)⟩, fun c hc => absurd hc (Nat.not_lt_zero c), rfl⟩
theorem dia_0 : Dia 0 (fun _ => 0) z0 0 (fun _ => 0) (fun _ => 0) (fun _ => 0) (fun _ => 0) (fun _ => 0) dia0 := by
  refine ⟨z0, z0, z0, z0, z0, z0, z0, z0, z0, z0, z0, z0, rfl, ⟨by omega, fun q hq => absurd hq (by omega)⟩, fun c hc => absurd hc (Nat.not_lt_zero c), rfl, ⟨fun e he => absurd he (by omega), fun i j _ hj => absurd hj (by omega), fun q hq => absurd hq (by omega)⟩, ⟨fun e he => absurd he (by omega), fun q hq => absurd hq (by omega)⟩, ⟨fun _ => 0, fun k _ => rfl, rfl, rfl, fun k hk => absurd hk (Nat.not_lt_zero k)⟩, fun c hc => absurd hc (Nat.not_lt_zero c), ⟨fun c hc => absurd hc (Nat.not_lt_zero c), fun e he => absurd he (by omega), fun g _ c hc => absurd hc (Nat.not_lt_zero c)⟩, fun d hd => absurd hd (by omega)⟩
