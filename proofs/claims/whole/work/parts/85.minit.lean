/-! The model: its constructor -/
set_option maxHeartbeats 2000000 in
theorem m_Mod_init : zMet y_Mod_init b_Mod_init 1 none ⟨1, 14, 728, 20⟩ [.ref 0] [zo 7 [.int 0, .int 0, .int 0, .null, .null, .int 0, .int 0, .int 0, .int 0, .null, .null, .null, .null, .int 0, .null, .null, .null, .int 0, .int 0, .null, .null, .int 0, .null, .null, .null]] (fun r h' => r = none ∧ Mdl 0 (fun _ => 0) z0 0 (fun _ => 0) z0 0 h') := by
  refine zMet_of (plainFor_of_name (by decide +kernel)) rfl (Nat.le_of_ble_eq_true rfl) (fun z1 z2 z3 z4 z5 z6 z7 z8 z9 z10 z11 z12 z13 z14 O hin => ?_)
  refine zi_ls (ls' := [some (.ref 0)]) rfl ?_
  refine zi_aload_n O d_Mod_init_0 rfl ?_
  refine zi_objInit O d_Mod_init_1 z_o_Mod z_oI z_oC (Nat.le_of_ble_eq_true rfl) (Nat.le_of_ble_eq_true rfl) ?_
  refine zi_aload_n O d_Mod_init_4 rfl ?_
  refine zi_iconst (v := -1) O d_Mod_init_5 (by decide) ?_
  refine zi_put O f_Mod_7 d_Mod_init_6 rfl (Nat.le_of_ble_eq_true rfl) (fun _ => rfl) (fun _ => rfl) (by dsimp only [List.set]) ?_
  refine zi_aload_n O d_Mod_init_9 rfl ?_
  refine zi_bipushN O 20 d_Mod_init_10 (by decide) ?_
  refine zi_newa O d_Mod_init_12 z_ar rfl (by decide) (Nat.le_of_ble_eq_true rfl) (Nat.le_of_ble_eq_true rfl) rfl rfl rfl (Nat.le_of_ble_eq_true rfl) ?_
  dsimp only [List.cons_append, List.nil_append]
  refine zi_putF O hin f_Mod_13 d_Mod_init_14 rfl rfl (Nat.le_of_ble_eq_true rfl) (fun _ => rfl) (fun _ => rfl) (by dsimp only [List.set]) ?_
  refine zi_aload_n O d_Mod_init_17 rfl ?_
  refine zi_bipushN O 80 d_Mod_init_18 (by decide) ?_
  refine zi_newa O d_Mod_init_20 z_ar rfl (by decide) (Nat.le_of_ble_eq_true rfl) (Nat.le_of_ble_eq_true rfl) rfl rfl rfl (Nat.le_of_ble_eq_true rfl) ?_
  dsimp only [List.cons_append, List.nil_append]
  refine zi_putF O hin f_Mod_17 d_Mod_init_22 rfl rfl (Nat.le_of_ble_eq_true rfl) (fun _ => rfl) (fun _ => rfl) (by dsimp only [List.set]) ?_
  refine zi_aload_n O d_Mod_init_25 rfl ?_
  refine zi_bipushN O 20 d_Mod_init_26 (by decide) ?_
  refine zi_newa O d_Mod_init_28 z_ar rfl (by decide) (Nat.le_of_ble_eq_true rfl) (Nat.le_of_ble_eq_true rfl) rfl rfl rfl (Nat.le_of_ble_eq_true rfl) ?_
  dsimp only [List.cons_append, List.nil_append]
  refine zi_putF O hin f_Mod_20 d_Mod_init_30 rfl rfl (Nat.le_of_ble_eq_true rfl) (fun _ => rfl) (fun _ => rfl) (by dsimp only [List.set]) ?_
  refine zi_aload_n O d_Mod_init_33 rfl ?_
  refine zi_bipushN O 80 d_Mod_init_34 (by decide) ?_
  refine zi_newa O d_Mod_init_36 z_ar rfl (by decide) (Nat.le_of_ble_eq_true rfl) (Nat.le_of_ble_eq_true rfl) rfl rfl rfl (Nat.le_of_ble_eq_true rfl) ?_
  dsimp only [List.cons_append, List.nil_append]
  refine zi_putF O hin f_Mod_23 d_Mod_init_38 rfl rfl (Nat.le_of_ble_eq_true rfl) (fun _ => rfl) (fun _ => rfl) (by dsimp only [List.set]) ?_
  refine zi_aload_n O d_Mod_init_41 rfl ?_
  refine zi_bipushN O 20 d_Mod_init_42 (by decide) ?_
  refine zi_newa O d_Mod_init_44 z_ar rfl (by decide) (Nat.le_of_ble_eq_true rfl) (Nat.le_of_ble_eq_true rfl) rfl rfl rfl (Nat.le_of_ble_eq_true rfl) ?_
  dsimp only [List.cons_append, List.nil_append]
  refine zi_putF O hin f_Mod_26 d_Mod_init_46 rfl rfl (Nat.le_of_ble_eq_true rfl) (fun _ => rfl) (fun _ => rfl) (by dsimp only [List.set]) ?_
  refine zi_aload_n O d_Mod_init_49 rfl ?_
  refine zi_bipushN O 80 d_Mod_init_50 (by decide) ?_
  refine zi_newa O d_Mod_init_52 z_ar rfl (by decide) (Nat.le_of_ble_eq_true rfl) (Nat.le_of_ble_eq_true rfl) rfl rfl rfl (Nat.le_of_ble_eq_true rfl) ?_
  dsimp only [List.cons_append, List.nil_append]
  refine zi_putF O hin f_Mod_29 d_Mod_init_54 rfl rfl (Nat.le_of_ble_eq_true rfl) (fun _ => rfl) (fun _ => rfl) (by dsimp only [List.set]) ?_
  refine zi_aload_n O d_Mod_init_57 rfl ?_
  refine zi_bipushN O 80 d_Mod_init_58 (by decide) ?_
  refine zi_newa O d_Mod_init_60 z_ar rfl (by decide) (Nat.le_of_ble_eq_true rfl) (Nat.le_of_ble_eq_true rfl) rfl rfl rfl (Nat.le_of_ble_eq_true rfl) ?_
  dsimp only [List.cons_append, List.nil_append]
  refine zi_putF O hin f_Mod_32 d_Mod_init_62 rfl rfl (Nat.le_of_ble_eq_true rfl) (fun _ => rfl) (fun _ => rfl) (by dsimp only [List.set]) ?_
  refine zi_aload_n O d_Mod_init_65 rfl ?_
  refine zi_bipushN O 80 d_Mod_init_66 (by decide) ?_
  refine zi_newa O d_Mod_init_68 z_ar rfl (by decide) (Nat.le_of_ble_eq_true rfl) (Nat.le_of_ble_eq_true rfl) rfl rfl rfl (Nat.le_of_ble_eq_true rfl) ?_
  dsimp only [List.cons_append, List.nil_append]
  refine zi_putF O hin f_Mod_35 d_Mod_init_70 rfl rfl (Nat.le_of_ble_eq_true rfl) (fun _ => rfl) (fun _ => rfl) (by dsimp only [List.set]) ?_
  refine zi_aload_n O d_Mod_init_73 rfl ?_
  refine zi_bipushN O 20 d_Mod_init_74 (by decide) ?_
  refine zi_newa O d_Mod_init_76 z_ar rfl (by decide) (Nat.le_of_ble_eq_true rfl) (Nat.le_of_ble_eq_true rfl) rfl rfl rfl (Nat.le_of_ble_eq_true rfl) ?_
  dsimp only [List.cons_append, List.nil_append]
  refine zi_putF O hin f_Mod_38 d_Mod_init_78 rfl rfl (Nat.le_of_ble_eq_true rfl) (fun _ => rfl) (fun _ => rfl) (by dsimp only [List.set]) ?_
  refine zi_aload_n O d_Mod_init_81 rfl ?_
  refine zi_bipushN O 80 d_Mod_init_82 (by decide) ?_
  refine zi_newa O d_Mod_init_84 z_ar rfl (by decide) (Nat.le_of_ble_eq_true rfl) (Nat.le_of_ble_eq_true rfl) rfl rfl rfl (Nat.le_of_ble_eq_true rfl) ?_
  dsimp only [List.cons_append, List.nil_append]
  refine zi_putF O hin f_Mod_41 d_Mod_init_86 rfl rfl (Nat.le_of_ble_eq_true rfl) (fun _ => rfl) (fun _ => rfl) (by dsimp only [List.set]) ?_
  refine zi_aload_n O d_Mod_init_89 rfl ?_
  refine zi_bipushN O 80 d_Mod_init_90 (by decide) ?_
  refine zi_newa O d_Mod_init_92 z_ar rfl (by decide) (Nat.le_of_ble_eq_true rfl) (Nat.le_of_ble_eq_true rfl) rfl rfl rfl (Nat.le_of_ble_eq_true rfl) ?_
  dsimp only [List.cons_append, List.nil_append]
  refine zi_putF O hin f_Mod_44 d_Mod_init_94 rfl rfl (Nat.le_of_ble_eq_true rfl) (fun _ => rfl) (fun _ => rfl) (by dsimp only [List.set]) ?_
  refine zi_aload_n O d_Mod_init_97 rfl ?_
  refine zi_bipushN O 80 d_Mod_init_98 (by decide) ?_
  refine zi_newa O d_Mod_init_100 z_ar rfl (by decide) (Nat.le_of_ble_eq_true rfl) (Nat.le_of_ble_eq_true rfl) rfl rfl rfl (Nat.le_of_ble_eq_true rfl) ?_
  dsimp only [List.cons_append, List.nil_append]
  refine zi_putF O hin f_Mod_47 d_Mod_init_102 rfl rfl (Nat.le_of_ble_eq_true rfl) (fun _ => rfl) (fun _ => rfl) (by dsimp only [List.set]) ?_
  refine zi_aload_n O d_Mod_init_105 rfl ?_
  refine zi_iconstN O 4 d_Mod_init_106 (by decide) ?_
  refine zi_newa O d_Mod_init_107 z_ar rfl (by decide) (Nat.le_of_ble_eq_true rfl) (Nat.le_of_ble_eq_true rfl) rfl rfl rfl (Nat.le_of_ble_eq_true rfl) ?_
  dsimp only [List.cons_append, List.nil_append]
  refine zi_putF O hin f_Mod_50 d_Mod_init_109 rfl rfl (Nat.le_of_ble_eq_true rfl) (fun _ => rfl) (fun _ => rfl) (by dsimp only [List.set]) ?_
  refine zi_aload_n O d_Mod_init_112 rfl ?_
  refine zi_iconstN O 4 d_Mod_init_113 (by decide) ?_
  refine zi_newa O d_Mod_init_114 z_ar rfl (by decide) (Nat.le_of_ble_eq_true rfl) (Nat.le_of_ble_eq_true rfl) rfl rfl rfl (Nat.le_of_ble_eq_true rfl) ?_
  dsimp only [List.cons_append, List.nil_append]
  refine zi_putF O hin f_Mod_53 d_Mod_init_116 rfl rfl (Nat.le_of_ble_eq_true rfl) (fun _ => rfl) (fun _ => rfl) (by dsimp only [List.set]) ?_
  refine zi_vret O d_Mod_init_119 (Nat.le_of_ble_eq_true rfl) (Nat.le_of_ble_eq_true rfl) (Nat.le_of_ble_eq_true rfl) ?_
  exact ⟨rfl, -1, z0, z0, 0, 0, z0, z0, z0, z0, 0, z0, z0, z0, 0, 0, z0, z0, 0, z0, z0, z0, rfl, ⟨by omega, fun q hq => absurd hq (by omega)⟩, fun c hc => absurd hc (Nat.not_lt_zero c), fun c hc => absurd hc (Nat.not_lt_zero c), ⟨by omega, fun q hq => absurd hq (by omega)⟩, fun c hc => absurd hc (Nat.not_lt_zero c), fun c hc => absurd hc (Nat.not_lt_zero c)⟩
