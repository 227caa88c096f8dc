/-! The model: add, cross, areOne, twist -/
section
variable {put n oN labs closed faces sides : Nat} {wrong ci oC : Int32} {pS pL S L oS oL row fresh piece comp fof side free arnd : Nat → Int32}
theorem m_Mod_add (hn : n < 20) (sg l0 l1 l2 l3 : Int32) : zMet y_Mod_add b_Mod_add 6 none ⟨0, 0, 0, 0⟩ [.ref 0, .int sg, .int l0, .int l1, .int l2, .int l3] (mh put wrong pS pL n ci oN oC S L oS oL labs row fresh piece closed faces comp fof sides side free arnd) (fun r h' => r = none ∧ h' = (mh put wrong pS pL (n + 1) ci oN oC (upd S n sg) (up4 L n l0 l1 l2 l3) oS oL labs row fresh piece closed faces comp fof sides side free arnd)) := by
  refine zMet_of (plainFor_of_name (by decide +kernel)) rfl (Nat.le_of_ble_eq_true rfl) (fun z1 z2 z3 z4 z5 z6 z7 z8 z9 z10 z11 z12 z13 z14 O hin => ?_)
  refine zi_ls (ls' := [some (.ref 0), some (.int sg), some (.int l0), some (.int l1), some (.int l2), some (.int l3)]) rfl ?_
  refine zi_aload_n O d_Mod_add_0 rfl ?_
  refine zi_get O f_Mod_20 d_Mod_add_1 rfl rfl ?_
  refine zi_aload_n O d_Mod_add_4 rfl ?_
  refine zi_get O f_Mod_59 d_Mod_add_5 rfl rfl ?_
  refine zi_iload_n O d_Mod_add_8 rfl ?_
  refine zi_iast O d_Mod_add_9 rfl rfl (by omega) (Nat.le_of_ble_eq_true rfl) (by dsimp only [List.set]) ?_
  refine zi_aload_n O d_Mod_add_10 rfl ?_
  refine zi_get O f_Mod_23 d_Mod_add_11 rfl rfl ?_
  refine zi_iconstN O 4 d_Mod_add_14 (by decide) ?_
  refine zi_aload_n O d_Mod_add_15 rfl ?_
  refine zi_get O f_Mod_59 d_Mod_add_16 rfl rfl ?_
  first | refine zi_imulN O d_Mod_add_19 ?_ | refine zi_imul O d_Mod_add_19 ?_
  refine zi_iload_n O d_Mod_add_20 rfl ?_
  refine zi_iast O d_Mod_add_21 rfl rfl (by omega) (Nat.le_of_ble_eq_true rfl) (by dsimp only [List.set]) ?_
  refine zi_aload_n O d_Mod_add_22 rfl ?_
  refine zi_get O f_Mod_23 d_Mod_add_23 rfl rfl ?_
  refine zi_iconstN O 4 d_Mod_add_26 (by decide) ?_
  refine zi_aload_n O d_Mod_add_27 rfl ?_
  refine zi_get O f_Mod_59 d_Mod_add_28 rfl rfl ?_
  first | refine zi_imulN O d_Mod_add_31 ?_ | refine zi_imul O d_Mod_add_31 ?_
  refine zi_iconstN O 1 d_Mod_add_32 (by decide) ?_
  first | refine zi_iaddN O d_Mod_add_33 ?_ | refine zi_iadd O d_Mod_add_33 ?_
  refine zi_iload_n O d_Mod_add_34 rfl ?_
  refine zi_iast O d_Mod_add_35 rfl rfl (by omega) (Nat.le_of_ble_eq_true rfl) (by dsimp only [List.set]) ?_
  refine zi_aload_n O d_Mod_add_36 rfl ?_
  refine zi_get O f_Mod_23 d_Mod_add_37 rfl rfl ?_
  refine zi_iconstN O 4 d_Mod_add_40 (by decide) ?_
  refine zi_aload_n O d_Mod_add_41 rfl ?_
  refine zi_get O f_Mod_59 d_Mod_add_42 rfl rfl ?_
  first | refine zi_imulN O d_Mod_add_45 ?_ | refine zi_imul O d_Mod_add_45 ?_
  refine zi_iconstN O 2 d_Mod_add_46 (by decide) ?_
  first | refine zi_iaddN O d_Mod_add_47 ?_ | refine zi_iadd O d_Mod_add_47 ?_
  refine zi_iload O d_Mod_add_48 rfl ?_
  refine zi_iast O d_Mod_add_50 rfl rfl (by omega) (Nat.le_of_ble_eq_true rfl) (by dsimp only [List.set]) ?_
  refine zi_aload_n O d_Mod_add_51 rfl ?_
  refine zi_get O f_Mod_23 d_Mod_add_52 rfl rfl ?_
  refine zi_iconstN O 4 d_Mod_add_55 (by decide) ?_
  refine zi_aload_n O d_Mod_add_56 rfl ?_
  refine zi_get O f_Mod_59 d_Mod_add_57 rfl rfl ?_
  first | refine zi_imulN O d_Mod_add_60 ?_ | refine zi_imul O d_Mod_add_60 ?_
  refine zi_iconstN O 3 d_Mod_add_61 (by decide) ?_
  first | refine zi_iaddN O d_Mod_add_62 ?_ | refine zi_iadd O d_Mod_add_62 ?_
  refine zi_iload O d_Mod_add_63 rfl ?_
  refine zi_iast O d_Mod_add_65 rfl rfl (by omega) (Nat.le_of_ble_eq_true rfl) (by dsimp only [List.set]) ?_
  refine zi_aload_n O d_Mod_add_66 rfl ?_
  refine zi_dup O d_Mod_add_67 rfl ?_
  refine zi_get O f_Mod_59 d_Mod_add_68 rfl rfl ?_
  refine zi_iconstN O 1 d_Mod_add_71 (by decide) ?_
  first | refine zi_iaddN O d_Mod_add_72 ?_ | refine zi_iadd O d_Mod_add_72 ?_
  refine zi_put O f_Mod_59 d_Mod_add_73 rfl (Nat.le_of_ble_eq_true rfl) (fun _ => rfl) (fun _ => rfl) (by dsimp only [List.set]) ?_
  refine zi_vret O d_Mod_add_76 (Nat.le_of_ble_eq_true rfl) (Nat.le_of_ble_eq_true rfl) (Nat.le_of_ble_eq_true rfl) ?_
  exact ⟨rfl, rfl⟩
theorem m_Mod_cross (hn : n < 20) (a b : Nat) (ha : a < 4) (hb : b < 4) : zMet y_Mod_cross b_Mod_cross 3 none ⟨1, 0, 0, 30⟩ [.ref 0, .int (nI a), .int (nI b)] (mh put wrong pS pL n ci oN oC S L oS oL labs row fresh piece closed faces comp fof sides side free arnd) (fun r h' => r = none ∧ h' = (mh put wrong pS pL (n + 1) ci oN oC (upd S n (if (a + 3) % 4 = b then nI 1 else -1)) (up4 L n (arnd a) (arnd ((a + 1) % 4)) (arnd ((a + 2) % 4)) (arnd ((a + 3) % 4))) oS oL labs row fresh piece closed faces comp fof sides side free arnd)) := by
  refine zMet_of (plainFor_of_name (by decide +kernel)) rfl (Nat.le_of_ble_eq_true rfl) (fun z1 z2 z3 z4 z5 z6 z7 z8 z9 z10 z11 z12 z13 z14 O hin => ?_)
  refine zi_ls (ls' := [some (.ref 0), some (.int (nI a)), some (.int (nI b))]) rfl ?_
  refine zi_aload_n O d_Mod_cross_0 rfl ?_
  refine zi_iload_n O d_Mod_cross_1 rfl ?_
  refine zi_iconstN O 3 d_Mod_cross_2 (by decide) ?_
  first | refine zi_iaddN O d_Mod_cross_3 ?_ | refine zi_iadd O d_Mod_cross_3 ?_
  refine zi_iconstN O 4 d_Mod_cross_4 (by decide) ?_
  refine zi_iremN O d_Mod_cross_5 (by omega) (by omega) (by omega) ?_
  refine zi_iload_n O d_Mod_cross_6 rfl ?_
  refine zi_icmp_neN O 14 d_Mod_cross_7 (by decide) (by omega) (by omega) (fun c7 => ?_) (fun c7 => ?_)
  · refine zi_iconst (v := -1) O d_Mod_cross_14 (by decide) ?_
    refine zi_aload_n O d_Mod_cross_15 rfl ?_
    refine zi_get O f_Mod_53 d_Mod_cross_16 rfl rfl ?_
    refine zi_iload_n O d_Mod_cross_19 rfl ?_
    refine zi_iald O d_Mod_cross_20 rfl rfl (by omega) (Nat.le_of_ble_eq_true rfl) ?_
    refine zi_aload_n O d_Mod_cross_21 rfl ?_
    refine zi_get O f_Mod_53 d_Mod_cross_22 rfl rfl ?_
    refine zi_iload_n O d_Mod_cross_25 rfl ?_
    refine zi_iconstN O 1 d_Mod_cross_26 (by decide) ?_
    first | refine zi_iaddN O d_Mod_cross_27 ?_ | refine zi_iadd O d_Mod_cross_27 ?_
    refine zi_iconstN O 4 d_Mod_cross_28 (by decide) ?_
    refine zi_iremN O d_Mod_cross_29 (by omega) (by omega) (by omega) ?_
    refine zi_iald O d_Mod_cross_30 rfl rfl (by omega) (Nat.le_of_ble_eq_true rfl) ?_
    refine zi_aload_n O d_Mod_cross_31 rfl ?_
    refine zi_get O f_Mod_53 d_Mod_cross_32 rfl rfl ?_
    refine zi_iload_n O d_Mod_cross_35 rfl ?_
    refine zi_iconstN O 2 d_Mod_cross_36 (by decide) ?_
    first | refine zi_iaddN O d_Mod_cross_37 ?_ | refine zi_iadd O d_Mod_cross_37 ?_
    refine zi_iconstN O 4 d_Mod_cross_38 (by decide) ?_
    refine zi_iremN O d_Mod_cross_39 (by omega) (by omega) (by omega) ?_
    refine zi_iald O d_Mod_cross_40 rfl rfl (by omega) (Nat.le_of_ble_eq_true rfl) ?_
    refine zi_aload_n O d_Mod_cross_41 rfl ?_
    refine zi_get O f_Mod_53 d_Mod_cross_42 rfl rfl ?_
    refine zi_iload_n O d_Mod_cross_45 rfl ?_
    refine zi_iconstN O 3 d_Mod_cross_46 (by decide) ?_
    first | refine zi_iaddN O d_Mod_cross_47 ?_ | refine zi_iadd O d_Mod_cross_47 ?_
    refine zi_iconstN O 4 d_Mod_cross_48 (by decide) ?_
    refine zi_iremN O d_Mod_cross_49 (by omega) (by omega) (by omega) ?_
    refine zi_iald O d_Mod_cross_50 rfl rfl (by omega) (Nat.le_of_ble_eq_true rfl) ?_
    refine zi_selfV O c_Mod_186 k_Mod_add (m_Mod_add hn (-1) (arnd a) (arnd ((a + 1) % 4)) (arnd ((a + 2) % 4)) (arnd ((a + 3) % 4))) d_Mod_cross_51 ⟨(Nat.le_of_ble_eq_true rfl), (Nat.le_of_ble_eq_true rfl)⟩ ⟨(Nat.le_of_ble_eq_true rfl), (Nat.le_of_ble_eq_true rfl)⟩ rfl rfl (Nat.le_of_ble_eq_true rfl) rfl rfl rfl (Nat.le_of_ble_eq_true rfl) rfl (fun r h' hq hl => ?_)
    obtain ⟨rfl, rfl⟩ := hq
    refine zi_st (st' := []) rfl ?_
    refine zi_vret O d_Mod_cross_54 (Nat.le_of_ble_eq_true rfl) (Nat.le_of_ble_eq_true rfl) (Nat.le_of_ble_eq_true rfl) ?_
    exact ⟨rfl, by rw [if_neg c7]⟩
  · refine zi_iconstN O 1 d_Mod_cross_10 (by decide) ?_
    refine zi_goto O 15 d_Mod_cross_11 (by decide) ?_
    refine zi_aload_n O d_Mod_cross_15 rfl ?_
    refine zi_get O f_Mod_53 d_Mod_cross_16 rfl rfl ?_
    refine zi_iload_n O d_Mod_cross_19 rfl ?_
    refine zi_iald O d_Mod_cross_20 rfl rfl (by omega) (Nat.le_of_ble_eq_true rfl) ?_
    refine zi_aload_n O d_Mod_cross_21 rfl ?_
    refine zi_get O f_Mod_53 d_Mod_cross_22 rfl rfl ?_
    refine zi_iload_n O d_Mod_cross_25 rfl ?_
    refine zi_iconstN O 1 d_Mod_cross_26 (by decide) ?_
    first | refine zi_iaddN O d_Mod_cross_27 ?_ | refine zi_iadd O d_Mod_cross_27 ?_
    refine zi_iconstN O 4 d_Mod_cross_28 (by decide) ?_
    refine zi_iremN O d_Mod_cross_29 (by omega) (by omega) (by omega) ?_
    refine zi_iald O d_Mod_cross_30 rfl rfl (by omega) (Nat.le_of_ble_eq_true rfl) ?_
    refine zi_aload_n O d_Mod_cross_31 rfl ?_
    refine zi_get O f_Mod_53 d_Mod_cross_32 rfl rfl ?_
    refine zi_iload_n O d_Mod_cross_35 rfl ?_
    refine zi_iconstN O 2 d_Mod_cross_36 (by decide) ?_
    first | refine zi_iaddN O d_Mod_cross_37 ?_ | refine zi_iadd O d_Mod_cross_37 ?_
    refine zi_iconstN O 4 d_Mod_cross_38 (by decide) ?_
    refine zi_iremN O d_Mod_cross_39 (by omega) (by omega) (by omega) ?_
    refine zi_iald O d_Mod_cross_40 rfl rfl (by omega) (Nat.le_of_ble_eq_true rfl) ?_
    refine zi_aload_n O d_Mod_cross_41 rfl ?_
    refine zi_get O f_Mod_53 d_Mod_cross_42 rfl rfl ?_
    refine zi_iload_n O d_Mod_cross_45 rfl ?_
    refine zi_iconstN O 3 d_Mod_cross_46 (by decide) ?_
    first | refine zi_iaddN O d_Mod_cross_47 ?_ | refine zi_iadd O d_Mod_cross_47 ?_
    refine zi_iconstN O 4 d_Mod_cross_48 (by decide) ?_
    refine zi_iremN O d_Mod_cross_49 (by omega) (by omega) (by omega) ?_
    refine zi_iald O d_Mod_cross_50 rfl rfl (by omega) (Nat.le_of_ble_eq_true rfl) ?_
    refine zi_selfV O c_Mod_186 k_Mod_add (m_Mod_add hn (nI 1) (arnd a) (arnd ((a + 1) % 4)) (arnd ((a + 2) % 4)) (arnd ((a + 3) % 4))) d_Mod_cross_51 ⟨(Nat.le_of_ble_eq_true rfl), (Nat.le_of_ble_eq_true rfl)⟩ ⟨(Nat.le_of_ble_eq_true rfl), (Nat.le_of_ble_eq_true rfl)⟩ rfl rfl (Nat.le_of_ble_eq_true rfl) rfl rfl rfl (Nat.le_of_ble_eq_true rfl) rfl (fun r h' hq hl => ?_)
    obtain ⟨rfl, rfl⟩ := hq
    refine zi_st (st' := []) rfl ?_
    refine zi_vret O d_Mod_cross_54 (Nat.le_of_ble_eq_true rfl) (Nat.le_of_ble_eq_true rfl) (Nat.le_of_ble_eq_true rfl) ?_
    exact ⟨rfl, by rw [if_pos c7]⟩
set_option maxHeartbeats 1000000 in
theorem m_Mod_areOne {lab el fr to_ at_ oc : Nat → Nat} (hR : RowOK n L lab) (hG : Sg n S) (hE : Ed n lab S el fr to_ at_) (hP : PcE (2 * n) n fr to_ oc) (e f g g' : Nat) (he : e < 2 * n) (hf : f < 2 * n) (hg : g ≤ 1) (hg' : g' ≤ 1) : zMet y_Mod_areOne b_Mod_areOne 7 (some .boolean) ⟨4, 0, 0, 110⟩ [.ref 0, .int (nI (el e)), .int (nI g), .int (nI (el f)), .int (nI g')] (mh put wrong pS pL n ci oN oC S L oS oL labs row fresh piece closed faces comp fof sides side free arnd)
    (fun r h' => ((r = some (.int (nI 1)) ∧ meet n fr to_ at_ oc (2 * e + g) (2 * f + g')) ∨ (r = some (.int (nI 0)) ∧ ¬ meet n fr to_ at_ oc (2 * e + g) (2 * f + g'))) ∧ ∃ (row' fof' piece' : Nat → Int32), h' = (mh put wrong pS pL n ci oN oC S L oS oL (2 * n) row' fresh piece' closed ((FF (nxD fr to_ at_) (4 * n) (4 * n)).2) comp fof' sides side free arnd)) := by
  have hn := hR.1
  have el9 : ∀ i, i < 2 * n → el i ≤ 9999 := fun i hi => (el_ok hR hE hi).2
  obtain ⟨f1, f2, -⟩ := hE.1 _ he
  obtain ⟨f3, f4, -⟩ := hE.1 _ hf
  have hoc : ∀ i x, i < 2 * n → x ≤ 1 → oc (ca fr to_ (2 * i + x)) = oc (fr i / 4) := by
    intro i x hi hx
    unfold ca ar
    rw [show (2 * i + x) / 2 = i by omega]
    split
    · exact (hP.2.1 i hi).symm
    · rfl
  have hm : meet n fr to_ at_ oc (2 * e + g) (2 * f + g') ↔ (oc (fr e / 4) ≠ oc (fr f / 4) ∨ (FF (nxD fr to_ at_) (4 * n) (4 * n)).1 (2 * e + g) = (FF (nxD fr to_ at_) (4 * n) (4 * n)).1 (2 * f + g')) := by
    unfold meet
    rw [hoc e g he hg, hoc f g' hf hg']
  have o1 := (hP.1 (fr e / 4) (by omega)).1
  have o2 := (hP.1 (fr f / 4) (by omega)).1
  refine zMet_of (plainFor_of_name (by decide +kernel)) rfl (Nat.le_of_ble_eq_true rfl) (fun z1 z2 z3 z4 z5 z6 z7 z8 z9 z10 z11 z12 z13 z14 O hin => ?_)
  refine zi_ls (ls' := [some (.ref 0), some (.int (nI (el e))), some (.int (nI g)), some (.int (nI (el f))), some (.int (nI g')), none, none]) rfl ?_
  refine zi_aload_n O d_Mod_areOne_0 rfl ?_
  refine zi_selfV O c_Mod_110 k_Mod_findFaces (m_Mod_findFaces hR hG hE) d_Mod_areOne_1 ⟨(Nat.le_of_ble_eq_true rfl), (Nat.le_of_ble_eq_true rfl)⟩ ⟨(Nat.le_of_ble_eq_true rfl), (Nat.le_of_ble_eq_true rfl)⟩ rfl rfl (Nat.le_of_ble_eq_true rfl) rfl rfl rfl (Nat.le_of_ble_eq_true rfl) rfl (fun r h' hq hl => ?_)
  obtain ⟨rfl, row', fof', rfl, hrow, hfof⟩ := hq
  refine zi_st (st' := []) rfl ?_
  have hrr : ∀ i, i < 2 * n → row' i = nI (el i) ∧ el i ≤ 9999 := fun i hi => ⟨hrow i hi, el9 i hi⟩
  refine zi_aload_n O d_Mod_areOne_4 rfl ?_
  refine zi_get O f_Mod_44 d_Mod_areOne_5 rfl rfl ?_
  refine zi_iconstN O 2 d_Mod_areOne_8 (by decide) ?_
  refine zi_aload_n O d_Mod_areOne_9 rfl ?_
  refine zi_iload_n O d_Mod_areOne_10 rfl ?_
  refine zi_selfP O c_Mod_92 k_Mod_rowOf (m_Mod_rowOf (by omega) hrr hE.2.1 he rfl) d_Mod_areOne_11 ⟨(Nat.le_of_ble_eq_true rfl), (Nat.le_of_ble_eq_true rfl)⟩ ⟨(Nat.le_of_ble_eq_true rfl), (Nat.le_of_ble_eq_true rfl)⟩ rfl rfl (Nat.le_of_ble_eq_true rfl) rfl rfl rfl (Nat.le_of_ble_eq_true rfl) rfl ?_
  first | refine zi_imulN O d_Mod_areOne_14 ?_ | refine zi_imul O d_Mod_areOne_14 ?_
  refine zi_iload_n O d_Mod_areOne_15 rfl ?_
  first | refine zi_iaddN O d_Mod_areOne_16 ?_ | refine zi_iadd O d_Mod_areOne_16 ?_
  refine zi_iald O d_Mod_areOne_17 rfl rfl (by omega) (Nat.le_of_ble_eq_true rfl) ?_
  rw [hfof _ (by omega)]
  refine zi_istore (ls' := _ :: _ :: _ :: _ :: _ :: some _ :: _) O d_Mod_areOne_18 rfl (by decide) rfl ?_
  refine zi_aload_n O d_Mod_areOne_20 rfl ?_
  refine zi_get O f_Mod_44 d_Mod_areOne_21 rfl rfl ?_
  refine zi_iconstN O 2 d_Mod_areOne_24 (by decide) ?_
  refine zi_aload_n O d_Mod_areOne_25 rfl ?_
  refine zi_iload_n O d_Mod_areOne_26 rfl ?_
  refine zi_selfP O c_Mod_92 k_Mod_rowOf (m_Mod_rowOf (by omega) hrr hE.2.1 hf rfl) d_Mod_areOne_27 ⟨(Nat.le_of_ble_eq_true rfl), (Nat.le_of_ble_eq_true rfl)⟩ ⟨(Nat.le_of_ble_eq_true rfl), (Nat.le_of_ble_eq_true rfl)⟩ rfl rfl (Nat.le_of_ble_eq_true rfl) rfl rfl rfl (Nat.le_of_ble_eq_true rfl) rfl ?_
  first | refine zi_imulN O d_Mod_areOne_30 ?_ | refine zi_imul O d_Mod_areOne_30 ?_
  refine zi_iload O d_Mod_areOne_31 rfl ?_
  first | refine zi_iaddN O d_Mod_areOne_33 ?_ | refine zi_iadd O d_Mod_areOne_33 ?_
  refine zi_iald O d_Mod_areOne_34 rfl rfl (by omega) (Nat.le_of_ble_eq_true rfl) ?_
  rw [hfof _ (by omega)]
  refine zi_istore (ls' := _ :: _ :: _ :: _ :: _ :: _ :: some _ :: _) O d_Mod_areOne_35 rfl (by decide) rfl ?_
  refine zi_aload_n O d_Mod_areOne_37 rfl ?_
  refine zi_selfV O c_Mod_86 k_Mod_hang (m_Mod_hangE hR hE hP) d_Mod_areOne_38 ⟨(Nat.le_of_ble_eq_true rfl), (Nat.le_of_ble_eq_true rfl)⟩ ⟨(Nat.le_of_ble_eq_true rfl), (Nat.le_of_ble_eq_true rfl)⟩ rfl rfl (Nat.le_of_ble_eq_true rfl) rfl rfl rfl (Nat.le_of_ble_eq_true rfl) rfl (fun r h' hq hl => ?_)
  obtain ⟨rfl, piece', rfl, hpc⟩ := hq
  refine zi_st (st' := []) rfl ?_
  refine zi_iload O d_Mod_areOne_41 rfl ?_
  refine zi_iload O d_Mod_areOne_43 rfl ?_
  refine zi_icmp_eq O 77 d_Mod_areOne_45 (by decide) (fun c45 => ?_) (fun c45 => ?_)
  · refine zi_iconstN O 1 d_Mod_areOne_77 (by decide) ?_
    refine zi_goto O 82 d_Mod_areOne_78 (by decide) ?_
    refine zi_zret O d_Mod_areOne_82 rfl (Nat.le_of_ble_eq_true rfl) (Nat.le_of_ble_eq_true rfl) (Nat.le_of_ble_eq_true rfl) ?_
    exact ⟨Or.inl ⟨rfl, hm.mpr (Or.inr c45)⟩, _, _, _, rfl⟩
  · refine zi_aload_n O d_Mod_areOne_48 rfl ?_
    refine zi_get O f_Mod_38 d_Mod_areOne_49 rfl rfl ?_
    refine zi_aload_n O d_Mod_areOne_52 rfl ?_
    refine zi_iload_n O d_Mod_areOne_53 rfl ?_
    refine zi_iconstN O 1 d_Mod_areOne_54 (by decide) ?_
    refine zi_selfP O c_Mod_66 k_Mod_placeOf (m_Mod_fr hR hG hE he) d_Mod_areOne_55 ⟨(Nat.le_of_ble_eq_true rfl), (Nat.le_of_ble_eq_true rfl)⟩ ⟨(Nat.le_of_ble_eq_true rfl), (Nat.le_of_ble_eq_true rfl)⟩ rfl rfl (Nat.le_of_ble_eq_true rfl) rfl rfl rfl (Nat.le_of_ble_eq_true rfl) rfl ?_
    refine zi_iconstN O 4 d_Mod_areOne_58 (by decide) ?_
    refine zi_idivN O d_Mod_areOne_59 (by omega) (by omega) (by omega) ?_
    refine zi_iald O d_Mod_areOne_60 rfl rfl (by omega) (Nat.le_of_ble_eq_true rfl) ?_
    rw [hpc _ (by omega)]
    refine zi_aload_n O d_Mod_areOne_61 rfl ?_
    refine zi_get O f_Mod_38 d_Mod_areOne_62 rfl rfl ?_
    refine zi_aload_n O d_Mod_areOne_65 rfl ?_
    refine zi_iload_n O d_Mod_areOne_66 rfl ?_
    refine zi_iconstN O 1 d_Mod_areOne_67 (by decide) ?_
    refine zi_selfP O c_Mod_66 k_Mod_placeOf (m_Mod_fr hR hG hE hf) d_Mod_areOne_68 ⟨(Nat.le_of_ble_eq_true rfl), (Nat.le_of_ble_eq_true rfl)⟩ ⟨(Nat.le_of_ble_eq_true rfl), (Nat.le_of_ble_eq_true rfl)⟩ rfl rfl (Nat.le_of_ble_eq_true rfl) rfl rfl rfl (Nat.le_of_ble_eq_true rfl) rfl ?_
    refine zi_iconstN O 4 d_Mod_areOne_71 (by decide) ?_
    refine zi_idivN O d_Mod_areOne_72 (by omega) (by omega) (by omega) ?_
    refine zi_iald O d_Mod_areOne_73 rfl rfl (by omega) (Nat.le_of_ble_eq_true rfl) ?_
    rw [hpc _ (by omega)]
    refine zi_icmp_eqN O 81 d_Mod_areOne_74 (by decide) (by omega) (by omega) (fun c74 => ?_) (fun c74 => ?_)
    · refine zi_iconstN O 0 d_Mod_areOne_81 (by decide) ?_
      refine zi_zret O d_Mod_areOne_82 rfl (Nat.le_of_ble_eq_true rfl) (Nat.le_of_ble_eq_true rfl) (Nat.le_of_ble_eq_true rfl) ?_
      refine ⟨Or.inr ⟨rfl, fun z => ?_⟩, _, _, _, rfl⟩
      rcases hm.mp z with z | z
      · exact z c74
      · exact c45 z
    · refine zi_iconstN O 1 d_Mod_areOne_77 (by decide) ?_
      refine zi_goto O 82 d_Mod_areOne_78 (by decide) ?_
      refine zi_zret O d_Mod_areOne_82 rfl (Nat.le_of_ble_eq_true rfl) (Nat.le_of_ble_eq_true rfl) (Nat.le_of_ble_eq_true rfl) ?_
      exact ⟨Or.inl ⟨rfl, hm.mpr (Or.inl c74)⟩, _, _, _, rfl⟩
end
theorem pos_nat {x : Int32} (h : ¬ x ≤ 0) : ∃ a, x = nI a ∧ 1 ≤ a ∧ a < 2 ^ 31 := by
  have e0 : (0 : Int32).toInt = 0 := by decide
  rw [Int32.le_iff_toInt_le, e0] at h
  have h2 := Int32.toInt_lt x
  refine ⟨x.toInt.toNat, ?_, by omega, by omega⟩
  apply Int32.toInt_inj.mp
  have hb : x.toInt.toNat < 2 ^ 31 := by omega
  rw [nI_toInt hb]
  omega
theorem nI_zero {a : Nat} (h : a < 2 ^ 31) (z : nI a = 0) : a = 0 := (nI_eq h (by decide)).mp z
theorem bI_ne : ¬ bI true = 0 := by decide
theorem crp {lab : Nat → Nat} {n : Nat} (pu pl : Bool) (u1 u2 u3 l1 l2 l3 : Nat) : cr lab n (nI 1) pu pl u1 u2 u3 l1 l2 l3 = ad4 lab n (if pl then l1 else l2) (if pu then u2 else u3) (if pl then l2 else l3) (if pu then u1 else u2) := rfl
theorem crm {lab : Nat → Nat} {n : Nat} (pu pl : Bool) (u1 u2 u3 l1 l2 l3 : Nat) : cr lab n (-1) pu pl u1 u2 u3 l1 l2 l3 = ad4 lab n (if pl then l1 else l2) (if pu then u1 else u2) (if pl then l2 else l3) (if pu then u2 else u3) := rfl
theorem sg_upd {S S0 : Nat → Int32} {n : Nat} (h : ∀ c, c < n → S c = S0 c) (v : Int32) : ∀ c, c < n + 1 → upd S n v c = upd S0 n v c := by
  intro c hc
  by_cases e : c = n
  · rw [e, pk_us, pk_us]
  · rw [pk_un e, pk_un e]; exact h c (by omega)
section
variable {k n : Nat} {plab lab : Nat → Nat} {T S0 : Nat → Int32} {ci : Int32} {h : List zE} {el fr to_ at_ oc : Nat → Nat}
set_option maxHeartbeats 1000000 in
theorem m_Mod_twist_no (hM : Mdl k plab T n lab S0 ci h) (hE : Ed n lab S0 el fr to_ at_) (x sg y : Int32) (hx : ¬ (sg = nI 1 ∨ sg = -1) ∨ 20 ≤ n ∨ (x = 0 ∧ ¬ 0 < ci) ∨ (¬ x = 0 ∧ ∀ e, e < 2 * n → ¬ nI (el e) = x)) : zMet y_Mod_twist b_Mod_twist 8 (some .boolean) ⟨7, 0, 0, 200⟩ [.ref 0, .int x, .int sg, .int y] h (fun r h' => r = some (.int (nI 0)) ∧ Mdl k plab T n lab S0 ci h') := by
  have hM0 := hM
  obtain ⟨wrong, pS, pL, oN, oC, S, L, oS, oL, labs, row, fresh, piece, closed, faces, comp, fof, sides, side, free, arnd, rfl, hR, hS, hG, hPR, hPS, hPG⟩ := hM
  have hn := hR.1
  have hE' := ed_same hE (fun _ _ => rfl) hS
  have hG' := sg_same hG hS
  refine zMet_of (plainFor_of_name (by decide +kernel)) rfl (Nat.le_of_ble_eq_true rfl) (fun z1 z2 z3 z4 z5 z6 z7 z8 z9 z10 z11 z12 z13 z14 O hin => ?_)
  refine zi_ls (ls' := [some (.ref 0), some (.int x), some (.int sg), some (.int y), none, none, none, none]) rfl ?_
  have key : ∀ g : Nat, (g = 0 ∨ (g = 1 ∧ (¬ (sg = nI 1 ∨ sg = -1) ∨ 20 ≤ n))) → zG z1 z2 z3 z4 z5 z6 z7 z8 z9 z10 z11 z12 z13 z14 15 8 (fun r h' => r = some (.int (nI 0)) ∧ Mdl k plab T n lab S0 ci h') 0 0 0 0 37 [some (.ref 0), some (.int x), some (.int sg), some (.int y), none, none, none, none] [.int (nI g)] (mh k wrong pS pL n ci oN oC S L oS oL labs row fresh piece closed faces comp fof sides side free arnd) := by
    intro g hg
    refine zi_istore (ls' := _ :: _ :: _ :: _ :: some _ :: _) O d_Mod_twist_37 rfl (by decide) rfl ?_
    refine zi_iload O d_Mod_twist_39 rfl ?_
    refine zi_if_eq O 63 d_Mod_twist_41 (by decide) (fun c41 => ?_) (fun c41 => ?_)
    · refine zi_iconstN O 0 d_Mod_twist_63 (by decide) ?_
      refine zi_zret O d_Mod_twist_64 rfl (Nat.le_of_ble_eq_true rfl) (Nat.le_of_ble_eq_true rfl) (Nat.le_of_ble_eq_true rfl) ?_
      exact ⟨rfl, hM0⟩
    · have hb : ¬ (sg = nI 1 ∨ sg = -1) ∨ 20 ≤ n := by
        rcases hg with z | z
        · rw [z] at c41; exact absurd rfl c41
        · exact z.2
      have k54 : 20 ≤ n → zG z1 z2 z3 z4 z5 z6 z7 z8 z9 z10 z11 z12 z13 z14 15 8 (fun r h' => r = some (.int (nI 0)) ∧ Mdl k plab T n lab S0 ci h') 0 0 0 0 54 [some (.ref 0), some (.int x), some (.int sg), some (.int y), some (.int (nI g)), none, none, none] [] (mh k wrong pS pL n ci oN oC S L oS oL labs row fresh piece closed faces comp fof sides side free arnd) := by
        intro h20
        refine zi_aload_n O d_Mod_twist_54 rfl ?_
        refine zi_get O f_Mod_59 d_Mod_twist_55 rfl rfl ?_
        refine zi_bipushN O 20 d_Mod_twist_58 (by decide) ?_
        refine zi_icmp_neN O 65 d_Mod_twist_60 (by decide) (by omega) (by omega) (fun c60 => ?_) (fun c60 => ?_)
        · omega
        · refine zi_iconstN O 0 d_Mod_twist_63 (by decide) ?_
          refine zi_zret O d_Mod_twist_64 rfl (Nat.le_of_ble_eq_true rfl) (Nat.le_of_ble_eq_true rfl) (Nat.le_of_ble_eq_true rfl) ?_
          exact ⟨rfl, hM0⟩
      refine zi_iload_n O d_Mod_twist_44 rfl ?_
      refine zi_iconstN O 1 d_Mod_twist_45 (by decide) ?_
      refine zi_icmp_eq O 54 d_Mod_twist_46 (by decide) (fun c46 => ?_) (fun c46 => ?_)
      · exact k54 (hb.resolve_left (fun z => z (Or.inl c46)))
      · refine zi_iload_n O d_Mod_twist_49 rfl ?_
        refine zi_iconst (v := -1) O d_Mod_twist_50 (by decide) ?_
        refine zi_icmp_ne O 63 d_Mod_twist_51 (by decide) (fun c51 => ?_) (fun c51 => ?_)
        · refine zi_iconstN O 0 d_Mod_twist_63 (by decide) ?_
          refine zi_zret O d_Mod_twist_64 rfl (Nat.le_of_ble_eq_true rfl) (Nat.le_of_ble_eq_true rfl) (Nat.le_of_ble_eq_true rfl) ?_
          exact ⟨rfl, hM0⟩
        · exact k54 (hb.resolve_left (fun z => z (Or.inr (by first | exact c51 | exact Classical.not_not.mp c51))))
  have none_ : zG z1 z2 z3 z4 z5 z6 z7 z8 z9 z10 z11 z12 z13 z14 15 8 (fun r h' => r = some (.int (nI 0)) ∧ Mdl k plab T n lab S0 ci h') 0 0 0 0 36 [some (.ref 0), some (.int x), some (.int sg), some (.int y), none, none, none, none] [] (mh k wrong pS pL n ci oN oC S L oS oL labs row fresh piece closed faces comp fof sides side free arnd) := by
    refine zi_iconstN O 0 d_Mod_twist_36 (by decide) ?_
    exact key 0 (Or.inl rfl)
  refine zi_iload_n O d_Mod_twist_0 rfl ?_
  refine zi_if_ne O 19 d_Mod_twist_1 (by decide) (fun c1 => ?_) (fun c1 => ?_)
  · refine zi_iload_n O d_Mod_twist_19 rfl ?_
    refine zi_if_le O 36 d_Mod_twist_20 (by decide) (fun c20 => ?_) (fun c20 => ?_)
    · exact none_
    · obtain ⟨l, rfl, hl1, hl2⟩ := pos_nat c20
      refine zi_aload_n O d_Mod_twist_23 rfl ?_
      refine zi_iload_n O d_Mod_twist_24 rfl ?_
      refine zi_iconstN O 1 d_Mod_twist_25 (by decide) ?_
      refine zi_selfP O c_Mod_66 k_Mod_placeOf (m_Mod_placeOf lab hR hG' l 1 hl2) d_Mod_twist_26 ⟨(Nat.le_of_ble_eq_true rfl), (Nat.le_of_ble_eq_true rfl)⟩ ⟨(Nat.le_of_ble_eq_true rfl), (Nat.le_of_ble_eq_true rfl)⟩ rfl rfl (Nat.le_of_ble_eq_true rfl) rfl rfl rfl (Nat.le_of_ble_eq_true rfl) rfl ?_
      by_cases c : ∃ e, e < 2 * n ∧ el e = l
      · obtain ⟨e, he, rfl⟩ := c
        obtain ⟨f1, -⟩ := hE.1 e he
        rw [plc_fr hE' he]
        refine zi_if_lt O 36 d_Mod_twist_29 (by decide) (fun c29 => ?_) (fun c29 => ?_)
        · exact absurd c29 (nI_pos (by omega))
        · refine zi_iconstN O 1 d_Mod_twist_32 (by decide) ?_
          refine zi_goto O 37 d_Mod_twist_33 (by decide) ?_
          refine key 1 (Or.inr ⟨rfl, ?_⟩)
          rcases hx with z | z | z | z
          · exact Or.inl z
          · exact Or.inr z
          · exact absurd z.1 c1
          · exact absurd rfl (z.2 e he)
      · rw [plc_no hE' (fun e he z => c ⟨e, he, z⟩)]
        refine zi_if_lt O 36 d_Mod_twist_29 (by decide) (fun c29 => ?_) (fun c29 => ?_)
        · exact none_
        · exact absurd (by decide) c29
  · have hx0 : x = 0 := by first | exact c1 | exact Classical.not_not.mp c1
    refine zi_aload_n O d_Mod_twist_4 rfl ?_
    refine zi_get O f_Mod_104 d_Mod_twist_5 rfl rfl ?_
    refine zi_if_le O 15 d_Mod_twist_8 (by decide) (fun c8 => ?_) (fun c8 => ?_)
    · refine zi_iconstN O 0 d_Mod_twist_15 (by decide) ?_
      refine zi_goto O 37 d_Mod_twist_16 (by decide) ?_
      exact key 0 (Or.inl rfl)
    · refine zi_iconstN O 1 d_Mod_twist_11 (by decide) ?_
      refine zi_goto O 37 d_Mod_twist_12 (by decide) ?_
      refine key 1 (Or.inr ⟨rfl, ?_⟩)
      rcases hx with z | z | z | z
      · exact Or.inl z
      · exact Or.inr z
      · exact absurd (Int32.not_le.mp c8) z.2
      · exact absurd hx0 z.1
set_option maxHeartbeats 1000000 in
theorem m_Mod_twist_c_tp (hM : Mdl k plab T n lab S0 ci h) (hE : Ed n lab S0 el fr to_ at_) (hn20 : n < 20) (hc : 0 < ci) : zMet y_Mod_twist b_Mod_twist 8 (some .boolean) ⟨7, 0, 0, 200⟩ [.ref 0, .int 0, .int (nI 1), .int (bI true)] h (fun r h' => r = some (.int (nI 1)) ∧ Mdl k plab T (n + 1) (cr lab n (nI 1) true (!true) (fN el (fN el 0 (2 * n)) (2 * n)) (fN el 0 (2 * n)) (fN el (fN el 0 (2 * n)) (2 * n)) (fN el (fN el 0 (2 * n)) (2 * n)) (fN el 0 (2 * n)) (fN el (fN el 0 (2 * n)) (2 * n))) (upd S0 n (nI 1)) (ci - nI 1) h') := by
  obtain ⟨wrong, pS, pL, oN, oC, S, L, oS, oL, labs, row, fresh, piece, closed, faces, comp, fof, sides, side, free, arnd, rfl, hR, hS, hG, hPR, hPS, hPG⟩ := hM
  have hn := hR.1
  have hE' := ed_same hE (fun _ _ => rfl) hS
  have hG' := sg_same hG hS
  have bu := fN_le el 0 (2 * n)
  have bv := fN_le el (fN el 0 (2 * n)) (2 * n)
  refine zMet_of (plainFor_of_name (by decide +kernel)) rfl (Nat.le_of_ble_eq_true rfl) (fun z1 z2 z3 z4 z5 z6 z7 z8 z9 z10 z11 z12 z13 z14 O hin => ?_)
  refine zi_ls (ls' := [some (.ref 0), some (.int 0), some (.int (nI 1)), some (.int (bI true)), none, none, none, none]) rfl ?_
  refine zi_iload_n O d_Mod_twist_0 rfl ?_
  refine zi_if_ne O 19 d_Mod_twist_1 (by decide) (fun c1 => ?_) (fun c1 => ?_)
  · exact absurd rfl c1
  refine zi_aload_n O d_Mod_twist_4 rfl ?_
  refine zi_get O f_Mod_104 d_Mod_twist_5 rfl rfl ?_
  refine zi_if_le O 15 d_Mod_twist_8 (by decide) (fun c8 => ?_) (fun c8 => ?_)
  · exact absurd hc (Int32.not_lt.mpr c8)
  refine zi_iconstN O 1 d_Mod_twist_11 (by decide) ?_
  refine zi_goto O 37 d_Mod_twist_12 (by decide) ?_
  refine zi_istore (ls' := _ :: _ :: _ :: _ :: some _ :: _) O d_Mod_twist_37 rfl (by decide) rfl ?_
  refine zi_iload O d_Mod_twist_39 rfl ?_
  refine zi_if_eq O 63 d_Mod_twist_41 (by decide) (fun c41 => ?_) (fun c41 => ?_)
  · exact absurd c41 (by decide)
  refine zi_iload_n O d_Mod_twist_44 rfl ?_
  refine zi_iconstN O 1 d_Mod_twist_45 (by decide) ?_
  refine zi_icmp_eq O 54 d_Mod_twist_46 (by decide) (fun c46 => ?_) (fun c46 => ?_)
  rotate_left
  · exact absurd rfl c46
  refine zi_aload_n O d_Mod_twist_54 rfl ?_
  refine zi_get O f_Mod_59 d_Mod_twist_55 rfl rfl ?_
  refine zi_bipushN O 20 d_Mod_twist_58 (by decide) ?_
  refine zi_icmp_neN O 65 d_Mod_twist_60 (by decide) (by omega) (by omega) (fun c60 => ?_) (fun c60 => ?_)
  rotate_left
  · omega
  refine zi_aload_n O d_Mod_twist_65 rfl ?_
  refine zi_selfV O c_Mod_136 k_Mod_findFree (m_Mod_findFree hR hE') d_Mod_twist_66 ⟨(Nat.le_of_ble_eq_true rfl), (Nat.le_of_ble_eq_true rfl)⟩ ⟨(Nat.le_of_ble_eq_true rfl), (Nat.le_of_ble_eq_true rfl)⟩ rfl rfl (Nat.le_of_ble_eq_true rfl) rfl rfl rfl (Nat.le_of_ble_eq_true rfl) rfl (fun r h' hq hl => ?_)
  obtain ⟨rfl, row', free', rfl, -, hf⟩ := hq
  refine zi_st (st' := []) rfl ?_
  have e0 : free' 0 = nI (fN el 0 (2 * n)) := hf 0 (by decide)
  have e1 : free' 1 = nI (fN el (fN el 0 (2 * n)) (2 * n)) := hf 1 (by decide)
  refine zi_aload_n O d_Mod_twist_69 rfl ?_
  refine zi_get O f_Mod_50 d_Mod_twist_70 rfl rfl ?_
  refine zi_iconstN O 0 d_Mod_twist_73 (by decide) ?_
  refine zi_iald O d_Mod_twist_74 rfl rfl (by omega) (Nat.le_of_ble_eq_true rfl) ?_
  rw [e0]
  refine zi_istore (ls' := _ :: _ :: _ :: _ :: _ :: some _ :: _) O d_Mod_twist_75 rfl (by decide) rfl ?_
  refine zi_aload_n O d_Mod_twist_77 rfl ?_
  refine zi_get O f_Mod_50 d_Mod_twist_78 rfl rfl ?_
  refine zi_iconstN O 1 d_Mod_twist_81 (by decide) ?_
  refine zi_iald O d_Mod_twist_82 rfl rfl (by omega) (Nat.le_of_ble_eq_true rfl) ?_
  rw [e1]
  refine zi_istore (ls' := _ :: _ :: _ :: _ :: _ :: _ :: some _ :: _) O d_Mod_twist_83 rfl (by decide) rfl ?_
  refine zi_iload_n O d_Mod_twist_85 rfl ?_
  refine zi_if_ne O 94 d_Mod_twist_86 (by decide) (fun c86 => ?_) (fun c86 => ?_)
  · exact absurd rfl c86
  refine zi_iload O d_Mod_twist_89 rfl ?_
  refine zi_goto O 95 d_Mod_twist_91 (by decide) ?_
  refine zi_istore (ls' := _ :: _ :: _ :: _ :: _ :: _ :: _ :: some _ :: _) O d_Mod_twist_95 rfl (by decide) rfl ?_
  refine zi_iload_n O d_Mod_twist_97 rfl ?_
  refine zi_if_ne O 114 d_Mod_twist_98 (by decide) (fun c98 => ?_) (fun c98 => ?_)
  · exact absurd rfl c98
  refine zi_aload_n O d_Mod_twist_101 rfl ?_
  refine zi_dup O d_Mod_twist_102 rfl ?_
  refine zi_get O f_Mod_104 d_Mod_twist_103 rfl rfl ?_
  refine zi_iconstN O 1 d_Mod_twist_106 (by decide) ?_
  first | refine zi_isubN O d_Mod_twist_107 (by omega) ?_ | refine zi_isub O d_Mod_twist_107 ?_
  refine zi_put O f_Mod_104 d_Mod_twist_108 rfl (Nat.le_of_ble_eq_true rfl) (fun _ => rfl) (fun _ => rfl) (by dsimp only [List.set]) ?_
  refine zi_goto O 127 d_Mod_twist_111 (by decide) ?_
  refine zi_iload_n O d_Mod_twist_127 rfl ?_
  refine zi_if_eq O 151 d_Mod_twist_128 (by decide) (fun c128 => ?_) (fun c128 => ?_)
  · exact absurd c128 (by decide)
  refine zi_iload_n O d_Mod_twist_131 rfl ?_
  refine zi_if_le O 151 d_Mod_twist_132 (by decide) (fun c132 => ?_) (fun c132 => ?_)
  · exact absurd c132 (by decide)
  refine zi_aload_n O d_Mod_twist_135 rfl ?_
  refine zi_iconstN O 1 d_Mod_twist_136 (by decide) ?_
  refine zi_iload O d_Mod_twist_137 rfl ?_
  refine zi_iload O d_Mod_twist_139 rfl ?_
  refine zi_iload O d_Mod_twist_141 rfl ?_
  refine zi_iload O d_Mod_twist_143 rfl ?_
  refine zi_selfV O c_Mod_186 k_Mod_add (m_Mod_add (by omega) (nI 1) (nI (fN el 0 (2 * n))) (nI (fN el 0 (2 * n))) (nI (fN el (fN el 0 (2 * n)) (2 * n))) (nI (fN el (fN el 0 (2 * n)) (2 * n)))) d_Mod_twist_145 ⟨(Nat.le_of_ble_eq_true rfl), (Nat.le_of_ble_eq_true rfl)⟩ ⟨(Nat.le_of_ble_eq_true rfl), (Nat.le_of_ble_eq_true rfl)⟩ rfl rfl (Nat.le_of_ble_eq_true rfl) rfl rfl rfl (Nat.le_of_ble_eq_true rfl) rfl (fun r h' hq hl => ?_)
  obtain ⟨rfl, rfl⟩ := hq
  refine zi_st (st' := []) rfl ?_
  refine zi_goto O 204 d_Mod_twist_148 (by decide) ?_
  refine zi_iconstN O 1 d_Mod_twist_204 (by decide) ?_
  refine zi_zret O d_Mod_twist_205 rfl (Nat.le_of_ble_eq_true rfl) (Nat.le_of_ble_eq_true rfl) (Nat.le_of_ble_eq_true rfl) ?_
  refine ⟨rfl, _, _, _, _, _, _, _, _, _, _, _, _, _, _, _, _, _, _, _, _, _, rfl, ?_, sg_upd hS _, sg_add hG (by decide), hPR, hPS, hPG⟩
  exact rowOK_ad hR hn20 (by omega) (by omega) (by omega) (by omega)
set_option maxHeartbeats 1000000 in
theorem m_Mod_twist_c_tm (hM : Mdl k plab T n lab S0 ci h) (hE : Ed n lab S0 el fr to_ at_) (hn20 : n < 20) (hc : 0 < ci) : zMet y_Mod_twist b_Mod_twist 8 (some .boolean) ⟨7, 0, 0, 200⟩ [.ref 0, .int 0, .int (-1), .int (bI true)] h (fun r h' => r = some (.int (nI 1)) ∧ Mdl k plab T (n + 1) (cr lab n (-1) true (!true) (fN el (fN el 0 (2 * n)) (2 * n)) (fN el 0 (2 * n)) (fN el (fN el 0 (2 * n)) (2 * n)) (fN el (fN el 0 (2 * n)) (2 * n)) (fN el 0 (2 * n)) (fN el (fN el 0 (2 * n)) (2 * n))) (upd S0 n (-1)) (ci - nI 1) h') := by
  obtain ⟨wrong, pS, pL, oN, oC, S, L, oS, oL, labs, row, fresh, piece, closed, faces, comp, fof, sides, side, free, arnd, rfl, hR, hS, hG, hPR, hPS, hPG⟩ := hM
  have hn := hR.1
  have hE' := ed_same hE (fun _ _ => rfl) hS
  have hG' := sg_same hG hS
  have bu := fN_le el 0 (2 * n)
  have bv := fN_le el (fN el 0 (2 * n)) (2 * n)
  refine zMet_of (plainFor_of_name (by decide +kernel)) rfl (Nat.le_of_ble_eq_true rfl) (fun z1 z2 z3 z4 z5 z6 z7 z8 z9 z10 z11 z12 z13 z14 O hin => ?_)
  refine zi_ls (ls' := [some (.ref 0), some (.int 0), some (.int (-1)), some (.int (bI true)), none, none, none, none]) rfl ?_
  refine zi_iload_n O d_Mod_twist_0 rfl ?_
  refine zi_if_ne O 19 d_Mod_twist_1 (by decide) (fun c1 => ?_) (fun c1 => ?_)
  · exact absurd rfl c1
  refine zi_aload_n O d_Mod_twist_4 rfl ?_
  refine zi_get O f_Mod_104 d_Mod_twist_5 rfl rfl ?_
  refine zi_if_le O 15 d_Mod_twist_8 (by decide) (fun c8 => ?_) (fun c8 => ?_)
  · exact absurd hc (Int32.not_lt.mpr c8)
  refine zi_iconstN O 1 d_Mod_twist_11 (by decide) ?_
  refine zi_goto O 37 d_Mod_twist_12 (by decide) ?_
  refine zi_istore (ls' := _ :: _ :: _ :: _ :: some _ :: _) O d_Mod_twist_37 rfl (by decide) rfl ?_
  refine zi_iload O d_Mod_twist_39 rfl ?_
  refine zi_if_eq O 63 d_Mod_twist_41 (by decide) (fun c41 => ?_) (fun c41 => ?_)
  · exact absurd c41 (by decide)
  refine zi_iload_n O d_Mod_twist_44 rfl ?_
  refine zi_iconstN O 1 d_Mod_twist_45 (by decide) ?_
  refine zi_icmp_eq O 54 d_Mod_twist_46 (by decide) (fun c46 => ?_) (fun c46 => ?_)
  · exact absurd c46 (by decide)
  refine zi_iload_n O d_Mod_twist_49 rfl ?_
  refine zi_iconst (v := -1) O d_Mod_twist_50 (by decide) ?_
  refine zi_icmp_ne O 63 d_Mod_twist_51 (by decide) (fun c51 => ?_) (fun c51 => ?_)
  · exact absurd rfl c51
  refine zi_aload_n O d_Mod_twist_54 rfl ?_
  refine zi_get O f_Mod_59 d_Mod_twist_55 rfl rfl ?_
  refine zi_bipushN O 20 d_Mod_twist_58 (by decide) ?_
  refine zi_icmp_neN O 65 d_Mod_twist_60 (by decide) (by omega) (by omega) (fun c60 => ?_) (fun c60 => ?_)
  rotate_left
  · omega
  refine zi_aload_n O d_Mod_twist_65 rfl ?_
  refine zi_selfV O c_Mod_136 k_Mod_findFree (m_Mod_findFree hR hE') d_Mod_twist_66 ⟨(Nat.le_of_ble_eq_true rfl), (Nat.le_of_ble_eq_true rfl)⟩ ⟨(Nat.le_of_ble_eq_true rfl), (Nat.le_of_ble_eq_true rfl)⟩ rfl rfl (Nat.le_of_ble_eq_true rfl) rfl rfl rfl (Nat.le_of_ble_eq_true rfl) rfl (fun r h' hq hl => ?_)
  obtain ⟨rfl, row', free', rfl, -, hf⟩ := hq
  refine zi_st (st' := []) rfl ?_
  have e0 : free' 0 = nI (fN el 0 (2 * n)) := hf 0 (by decide)
  have e1 : free' 1 = nI (fN el (fN el 0 (2 * n)) (2 * n)) := hf 1 (by decide)
  refine zi_aload_n O d_Mod_twist_69 rfl ?_
  refine zi_get O f_Mod_50 d_Mod_twist_70 rfl rfl ?_
  refine zi_iconstN O 0 d_Mod_twist_73 (by decide) ?_
  refine zi_iald O d_Mod_twist_74 rfl rfl (by omega) (Nat.le_of_ble_eq_true rfl) ?_
  rw [e0]
  refine zi_istore (ls' := _ :: _ :: _ :: _ :: _ :: some _ :: _) O d_Mod_twist_75 rfl (by decide) rfl ?_
  refine zi_aload_n O d_Mod_twist_77 rfl ?_
  refine zi_get O f_Mod_50 d_Mod_twist_78 rfl rfl ?_
  refine zi_iconstN O 1 d_Mod_twist_81 (by decide) ?_
  refine zi_iald O d_Mod_twist_82 rfl rfl (by omega) (Nat.le_of_ble_eq_true rfl) ?_
  rw [e1]
  refine zi_istore (ls' := _ :: _ :: _ :: _ :: _ :: _ :: some _ :: _) O d_Mod_twist_83 rfl (by decide) rfl ?_
  refine zi_iload_n O d_Mod_twist_85 rfl ?_
  refine zi_if_ne O 94 d_Mod_twist_86 (by decide) (fun c86 => ?_) (fun c86 => ?_)
  · exact absurd rfl c86
  refine zi_iload O d_Mod_twist_89 rfl ?_
  refine zi_goto O 95 d_Mod_twist_91 (by decide) ?_
  refine zi_istore (ls' := _ :: _ :: _ :: _ :: _ :: _ :: _ :: some _ :: _) O d_Mod_twist_95 rfl (by decide) rfl ?_
  refine zi_iload_n O d_Mod_twist_97 rfl ?_
  refine zi_if_ne O 114 d_Mod_twist_98 (by decide) (fun c98 => ?_) (fun c98 => ?_)
  · exact absurd rfl c98
  refine zi_aload_n O d_Mod_twist_101 rfl ?_
  refine zi_dup O d_Mod_twist_102 rfl ?_
  refine zi_get O f_Mod_104 d_Mod_twist_103 rfl rfl ?_
  refine zi_iconstN O 1 d_Mod_twist_106 (by decide) ?_
  first | refine zi_isubN O d_Mod_twist_107 (by omega) ?_ | refine zi_isub O d_Mod_twist_107 ?_
  refine zi_put O f_Mod_104 d_Mod_twist_108 rfl (Nat.le_of_ble_eq_true rfl) (fun _ => rfl) (fun _ => rfl) (by dsimp only [List.set]) ?_
  refine zi_goto O 127 d_Mod_twist_111 (by decide) ?_
  refine zi_iload_n O d_Mod_twist_127 rfl ?_
  refine zi_if_eq O 151 d_Mod_twist_128 (by decide) (fun c128 => ?_) (fun c128 => ?_)
  · exact absurd c128 (by decide)
  refine zi_iload_n O d_Mod_twist_131 rfl ?_
  refine zi_if_le O 151 d_Mod_twist_132 (by decide) (fun c132 => ?_) (fun c132 => ?_)
  rotate_left
  · exact absurd (by decide) c132
  refine zi_iload_n O d_Mod_twist_151 rfl ?_
  refine zi_if_eq O 171 d_Mod_twist_152 (by decide) (fun c152 => ?_) (fun c152 => ?_)
  · exact absurd c152 (by decide)
  refine zi_aload_n O d_Mod_twist_155 rfl ?_
  refine zi_iconst (v := -1) O d_Mod_twist_156 (by decide) ?_
  refine zi_iload O d_Mod_twist_157 rfl ?_
  refine zi_iload O d_Mod_twist_159 rfl ?_
  refine zi_iload O d_Mod_twist_161 rfl ?_
  refine zi_iload O d_Mod_twist_163 rfl ?_
  refine zi_selfV O c_Mod_186 k_Mod_add (m_Mod_add (by omega) (-1) (nI (fN el 0 (2 * n))) (nI (fN el (fN el 0 (2 * n)) (2 * n))) (nI (fN el (fN el 0 (2 * n)) (2 * n))) (nI (fN el 0 (2 * n)))) d_Mod_twist_165 ⟨(Nat.le_of_ble_eq_true rfl), (Nat.le_of_ble_eq_true rfl)⟩ ⟨(Nat.le_of_ble_eq_true rfl), (Nat.le_of_ble_eq_true rfl)⟩ rfl rfl (Nat.le_of_ble_eq_true rfl) rfl rfl rfl (Nat.le_of_ble_eq_true rfl) rfl (fun r h' hq hl => ?_)
  obtain ⟨rfl, rfl⟩ := hq
  refine zi_st (st' := []) rfl ?_
  refine zi_goto O 204 d_Mod_twist_168 (by decide) ?_
  refine zi_iconstN O 1 d_Mod_twist_204 (by decide) ?_
  refine zi_zret O d_Mod_twist_205 rfl (Nat.le_of_ble_eq_true rfl) (Nat.le_of_ble_eq_true rfl) (Nat.le_of_ble_eq_true rfl) ?_
  refine ⟨rfl, _, _, _, _, _, _, _, _, _, _, _, _, _, _, _, _, _, _, _, _, _, rfl, ?_, sg_upd hS _, sg_add hG (by decide), hPR, hPS, hPG⟩
  exact rowOK_ad hR hn20 (by omega) (by omega) (by omega) (by omega)
set_option maxHeartbeats 1000000 in
theorem m_Mod_twist_c_fp (hM : Mdl k plab T n lab S0 ci h) (hE : Ed n lab S0 el fr to_ at_) (hn20 : n < 20) (hc : 0 < ci) : zMet y_Mod_twist b_Mod_twist 8 (some .boolean) ⟨7, 0, 0, 200⟩ [.ref 0, .int 0, .int (nI 1), .int (bI false)] h (fun r h' => r = some (.int (nI 1)) ∧ Mdl k plab T (n + 1) (cr lab n (nI 1) false (!false) (fN el (fN el 0 (2 * n)) (2 * n)) (fN el 0 (2 * n)) (fN el (fN el 0 (2 * n)) (2 * n)) (fN el (fN el 0 (2 * n)) (2 * n)) (fN el 0 (2 * n)) (fN el (fN el 0 (2 * n)) (2 * n))) (upd S0 n (nI 1)) (ci - nI 1) h') := by
  obtain ⟨wrong, pS, pL, oN, oC, S, L, oS, oL, labs, row, fresh, piece, closed, faces, comp, fof, sides, side, free, arnd, rfl, hR, hS, hG, hPR, hPS, hPG⟩ := hM
  have hn := hR.1
  have hE' := ed_same hE (fun _ _ => rfl) hS
  have hG' := sg_same hG hS
  have bu := fN_le el 0 (2 * n)
  have bv := fN_le el (fN el 0 (2 * n)) (2 * n)
  refine zMet_of (plainFor_of_name (by decide +kernel)) rfl (Nat.le_of_ble_eq_true rfl) (fun z1 z2 z3 z4 z5 z6 z7 z8 z9 z10 z11 z12 z13 z14 O hin => ?_)
  refine zi_ls (ls' := [some (.ref 0), some (.int 0), some (.int (nI 1)), some (.int (bI false)), none, none, none, none]) rfl ?_
  refine zi_iload_n O d_Mod_twist_0 rfl ?_
  refine zi_if_ne O 19 d_Mod_twist_1 (by decide) (fun c1 => ?_) (fun c1 => ?_)
  · exact absurd rfl c1
  refine zi_aload_n O d_Mod_twist_4 rfl ?_
  refine zi_get O f_Mod_104 d_Mod_twist_5 rfl rfl ?_
  refine zi_if_le O 15 d_Mod_twist_8 (by decide) (fun c8 => ?_) (fun c8 => ?_)
  · exact absurd hc (Int32.not_lt.mpr c8)
  refine zi_iconstN O 1 d_Mod_twist_11 (by decide) ?_
  refine zi_goto O 37 d_Mod_twist_12 (by decide) ?_
  refine zi_istore (ls' := _ :: _ :: _ :: _ :: some _ :: _) O d_Mod_twist_37 rfl (by decide) rfl ?_
  refine zi_iload O d_Mod_twist_39 rfl ?_
  refine zi_if_eq O 63 d_Mod_twist_41 (by decide) (fun c41 => ?_) (fun c41 => ?_)
  · exact absurd c41 (by decide)
  refine zi_iload_n O d_Mod_twist_44 rfl ?_
  refine zi_iconstN O 1 d_Mod_twist_45 (by decide) ?_
  refine zi_icmp_eq O 54 d_Mod_twist_46 (by decide) (fun c46 => ?_) (fun c46 => ?_)
  rotate_left
  · exact absurd rfl c46
  refine zi_aload_n O d_Mod_twist_54 rfl ?_
  refine zi_get O f_Mod_59 d_Mod_twist_55 rfl rfl ?_
  refine zi_bipushN O 20 d_Mod_twist_58 (by decide) ?_
  refine zi_icmp_neN O 65 d_Mod_twist_60 (by decide) (by omega) (by omega) (fun c60 => ?_) (fun c60 => ?_)
  rotate_left
  · omega
  refine zi_aload_n O d_Mod_twist_65 rfl ?_
  refine zi_selfV O c_Mod_136 k_Mod_findFree (m_Mod_findFree hR hE') d_Mod_twist_66 ⟨(Nat.le_of_ble_eq_true rfl), (Nat.le_of_ble_eq_true rfl)⟩ ⟨(Nat.le_of_ble_eq_true rfl), (Nat.le_of_ble_eq_true rfl)⟩ rfl rfl (Nat.le_of_ble_eq_true rfl) rfl rfl rfl (Nat.le_of_ble_eq_true rfl) rfl (fun r h' hq hl => ?_)
  obtain ⟨rfl, row', free', rfl, -, hf⟩ := hq
  refine zi_st (st' := []) rfl ?_
  have e0 : free' 0 = nI (fN el 0 (2 * n)) := hf 0 (by decide)
  have e1 : free' 1 = nI (fN el (fN el 0 (2 * n)) (2 * n)) := hf 1 (by decide)
  refine zi_aload_n O d_Mod_twist_69 rfl ?_
  refine zi_get O f_Mod_50 d_Mod_twist_70 rfl rfl ?_
  refine zi_iconstN O 0 d_Mod_twist_73 (by decide) ?_
  refine zi_iald O d_Mod_twist_74 rfl rfl (by omega) (Nat.le_of_ble_eq_true rfl) ?_
  rw [e0]
  refine zi_istore (ls' := _ :: _ :: _ :: _ :: _ :: some _ :: _) O d_Mod_twist_75 rfl (by decide) rfl ?_
  refine zi_aload_n O d_Mod_twist_77 rfl ?_
  refine zi_get O f_Mod_50 d_Mod_twist_78 rfl rfl ?_
  refine zi_iconstN O 1 d_Mod_twist_81 (by decide) ?_
  refine zi_iald O d_Mod_twist_82 rfl rfl (by omega) (Nat.le_of_ble_eq_true rfl) ?_
  rw [e1]
  refine zi_istore (ls' := _ :: _ :: _ :: _ :: _ :: _ :: some _ :: _) O d_Mod_twist_83 rfl (by decide) rfl ?_
  refine zi_iload_n O d_Mod_twist_85 rfl ?_
  refine zi_if_ne O 94 d_Mod_twist_86 (by decide) (fun c86 => ?_) (fun c86 => ?_)
  · exact absurd rfl c86
  refine zi_iload O d_Mod_twist_89 rfl ?_
  refine zi_goto O 95 d_Mod_twist_91 (by decide) ?_
  refine zi_istore (ls' := _ :: _ :: _ :: _ :: _ :: _ :: _ :: some _ :: _) O d_Mod_twist_95 rfl (by decide) rfl ?_
  refine zi_iload_n O d_Mod_twist_97 rfl ?_
  refine zi_if_ne O 114 d_Mod_twist_98 (by decide) (fun c98 => ?_) (fun c98 => ?_)
  · exact absurd rfl c98
  refine zi_aload_n O d_Mod_twist_101 rfl ?_
  refine zi_dup O d_Mod_twist_102 rfl ?_
  refine zi_get O f_Mod_104 d_Mod_twist_103 rfl rfl ?_
  refine zi_iconstN O 1 d_Mod_twist_106 (by decide) ?_
  first | refine zi_isubN O d_Mod_twist_107 (by omega) ?_ | refine zi_isub O d_Mod_twist_107 ?_
  refine zi_put O f_Mod_104 d_Mod_twist_108 rfl (Nat.le_of_ble_eq_true rfl) (fun _ => rfl) (fun _ => rfl) (by dsimp only [List.set]) ?_
  refine zi_goto O 127 d_Mod_twist_111 (by decide) ?_
  refine zi_iload_n O d_Mod_twist_127 rfl ?_
  refine zi_if_eq O 151 d_Mod_twist_128 (by decide) (fun c128 => ?_) (fun c128 => ?_)
  rotate_left
  · exact absurd rfl c128
  refine zi_iload_n O d_Mod_twist_151 rfl ?_
  refine zi_if_eq O 171 d_Mod_twist_152 (by decide) (fun c152 => ?_) (fun c152 => ?_)
  rotate_left
  · exact absurd rfl c152
  refine zi_iload_n O d_Mod_twist_171 rfl ?_
  refine zi_if_le O 191 d_Mod_twist_172 (by decide) (fun c172 => ?_) (fun c172 => ?_)
  · exact absurd c172 (by decide)
  refine zi_aload_n O d_Mod_twist_175 rfl ?_
  refine zi_iconstN O 1 d_Mod_twist_176 (by decide) ?_
  refine zi_iload O d_Mod_twist_177 rfl ?_
  refine zi_iload O d_Mod_twist_179 rfl ?_
  refine zi_iload O d_Mod_twist_181 rfl ?_
  refine zi_iload O d_Mod_twist_183 rfl ?_
  refine zi_selfV O c_Mod_186 k_Mod_add (m_Mod_add (by omega) (nI 1) (nI (fN el (fN el 0 (2 * n)) (2 * n))) (nI (fN el (fN el 0 (2 * n)) (2 * n))) (nI (fN el 0 (2 * n))) (nI (fN el 0 (2 * n)))) d_Mod_twist_185 ⟨(Nat.le_of_ble_eq_true rfl), (Nat.le_of_ble_eq_true rfl)⟩ ⟨(Nat.le_of_ble_eq_true rfl), (Nat.le_of_ble_eq_true rfl)⟩ rfl rfl (Nat.le_of_ble_eq_true rfl) rfl rfl rfl (Nat.le_of_ble_eq_true rfl) rfl (fun r h' hq hl => ?_)
  obtain ⟨rfl, rfl⟩ := hq
  refine zi_st (st' := []) rfl ?_
  refine zi_goto O 204 d_Mod_twist_188 (by decide) ?_
  refine zi_iconstN O 1 d_Mod_twist_204 (by decide) ?_
  refine zi_zret O d_Mod_twist_205 rfl (Nat.le_of_ble_eq_true rfl) (Nat.le_of_ble_eq_true rfl) (Nat.le_of_ble_eq_true rfl) ?_
  refine ⟨rfl, _, _, _, _, _, _, _, _, _, _, _, _, _, _, _, _, _, _, _, _, _, rfl, ?_, sg_upd hS _, sg_add hG (by decide), hPR, hPS, hPG⟩
  exact rowOK_ad hR hn20 (by omega) (by omega) (by omega) (by omega)
set_option maxHeartbeats 1000000 in
theorem m_Mod_twist_c_fm (hM : Mdl k plab T n lab S0 ci h) (hE : Ed n lab S0 el fr to_ at_) (hn20 : n < 20) (hc : 0 < ci) : zMet y_Mod_twist b_Mod_twist 8 (some .boolean) ⟨7, 0, 0, 200⟩ [.ref 0, .int 0, .int (-1), .int (bI false)] h (fun r h' => r = some (.int (nI 1)) ∧ Mdl k plab T (n + 1) (cr lab n (-1) false (!false) (fN el (fN el 0 (2 * n)) (2 * n)) (fN el 0 (2 * n)) (fN el (fN el 0 (2 * n)) (2 * n)) (fN el (fN el 0 (2 * n)) (2 * n)) (fN el 0 (2 * n)) (fN el (fN el 0 (2 * n)) (2 * n))) (upd S0 n (-1)) (ci - nI 1) h') := by
  obtain ⟨wrong, pS, pL, oN, oC, S, L, oS, oL, labs, row, fresh, piece, closed, faces, comp, fof, sides, side, free, arnd, rfl, hR, hS, hG, hPR, hPS, hPG⟩ := hM
  have hn := hR.1
  have hE' := ed_same hE (fun _ _ => rfl) hS
  have hG' := sg_same hG hS
  have bu := fN_le el 0 (2 * n)
  have bv := fN_le el (fN el 0 (2 * n)) (2 * n)
  refine zMet_of (plainFor_of_name (by decide +kernel)) rfl (Nat.le_of_ble_eq_true rfl) (fun z1 z2 z3 z4 z5 z6 z7 z8 z9 z10 z11 z12 z13 z14 O hin => ?_)
  refine zi_ls (ls' := [some (.ref 0), some (.int 0), some (.int (-1)), some (.int (bI false)), none, none, none, none]) rfl ?_
  refine zi_iload_n O d_Mod_twist_0 rfl ?_
  refine zi_if_ne O 19 d_Mod_twist_1 (by decide) (fun c1 => ?_) (fun c1 => ?_)
  · exact absurd rfl c1
  refine zi_aload_n O d_Mod_twist_4 rfl ?_
  refine zi_get O f_Mod_104 d_Mod_twist_5 rfl rfl ?_
  refine zi_if_le O 15 d_Mod_twist_8 (by decide) (fun c8 => ?_) (fun c8 => ?_)
  · exact absurd hc (Int32.not_lt.mpr c8)
  refine zi_iconstN O 1 d_Mod_twist_11 (by decide) ?_
  refine zi_goto O 37 d_Mod_twist_12 (by decide) ?_
  refine zi_istore (ls' := _ :: _ :: _ :: _ :: some _ :: _) O d_Mod_twist_37 rfl (by decide) rfl ?_
  refine zi_iload O d_Mod_twist_39 rfl ?_
  refine zi_if_eq O 63 d_Mod_twist_41 (by decide) (fun c41 => ?_) (fun c41 => ?_)
  · exact absurd c41 (by decide)
  refine zi_iload_n O d_Mod_twist_44 rfl ?_
  refine zi_iconstN O 1 d_Mod_twist_45 (by decide) ?_
  refine zi_icmp_eq O 54 d_Mod_twist_46 (by decide) (fun c46 => ?_) (fun c46 => ?_)
  · exact absurd c46 (by decide)
  refine zi_iload_n O d_Mod_twist_49 rfl ?_
  refine zi_iconst (v := -1) O d_Mod_twist_50 (by decide) ?_
  refine zi_icmp_ne O 63 d_Mod_twist_51 (by decide) (fun c51 => ?_) (fun c51 => ?_)
  · exact absurd rfl c51
  refine zi_aload_n O d_Mod_twist_54 rfl ?_
  refine zi_get O f_Mod_59 d_Mod_twist_55 rfl rfl ?_
  refine zi_bipushN O 20 d_Mod_twist_58 (by decide) ?_
  refine zi_icmp_neN O 65 d_Mod_twist_60 (by decide) (by omega) (by omega) (fun c60 => ?_) (fun c60 => ?_)
  rotate_left
  · omega
  refine zi_aload_n O d_Mod_twist_65 rfl ?_
  refine zi_selfV O c_Mod_136 k_Mod_findFree (m_Mod_findFree hR hE') d_Mod_twist_66 ⟨(Nat.le_of_ble_eq_true rfl), (Nat.le_of_ble_eq_true rfl)⟩ ⟨(Nat.le_of_ble_eq_true rfl), (Nat.le_of_ble_eq_true rfl)⟩ rfl rfl (Nat.le_of_ble_eq_true rfl) rfl rfl rfl (Nat.le_of_ble_eq_true rfl) rfl (fun r h' hq hl => ?_)
  obtain ⟨rfl, row', free', rfl, -, hf⟩ := hq
  refine zi_st (st' := []) rfl ?_
  have e0 : free' 0 = nI (fN el 0 (2 * n)) := hf 0 (by decide)
  have e1 : free' 1 = nI (fN el (fN el 0 (2 * n)) (2 * n)) := hf 1 (by decide)
  refine zi_aload_n O d_Mod_twist_69 rfl ?_
  refine zi_get O f_Mod_50 d_Mod_twist_70 rfl rfl ?_
  refine zi_iconstN O 0 d_Mod_twist_73 (by decide) ?_
  refine zi_iald O d_Mod_twist_74 rfl rfl (by omega) (Nat.le_of_ble_eq_true rfl) ?_
  rw [e0]
  refine zi_istore (ls' := _ :: _ :: _ :: _ :: _ :: some _ :: _) O d_Mod_twist_75 rfl (by decide) rfl ?_
  refine zi_aload_n O d_Mod_twist_77 rfl ?_
  refine zi_get O f_Mod_50 d_Mod_twist_78 rfl rfl ?_
  refine zi_iconstN O 1 d_Mod_twist_81 (by decide) ?_
  refine zi_iald O d_Mod_twist_82 rfl rfl (by omega) (Nat.le_of_ble_eq_true rfl) ?_
  rw [e1]
  refine zi_istore (ls' := _ :: _ :: _ :: _ :: _ :: _ :: some _ :: _) O d_Mod_twist_83 rfl (by decide) rfl ?_
  refine zi_iload_n O d_Mod_twist_85 rfl ?_
  refine zi_if_ne O 94 d_Mod_twist_86 (by decide) (fun c86 => ?_) (fun c86 => ?_)
  · exact absurd rfl c86
  refine zi_iload O d_Mod_twist_89 rfl ?_
  refine zi_goto O 95 d_Mod_twist_91 (by decide) ?_
  refine zi_istore (ls' := _ :: _ :: _ :: _ :: _ :: _ :: _ :: some _ :: _) O d_Mod_twist_95 rfl (by decide) rfl ?_
  refine zi_iload_n O d_Mod_twist_97 rfl ?_
  refine zi_if_ne O 114 d_Mod_twist_98 (by decide) (fun c98 => ?_) (fun c98 => ?_)
  · exact absurd rfl c98
  refine zi_aload_n O d_Mod_twist_101 rfl ?_
  refine zi_dup O d_Mod_twist_102 rfl ?_
  refine zi_get O f_Mod_104 d_Mod_twist_103 rfl rfl ?_
  refine zi_iconstN O 1 d_Mod_twist_106 (by decide) ?_
  first | refine zi_isubN O d_Mod_twist_107 (by omega) ?_ | refine zi_isub O d_Mod_twist_107 ?_
  refine zi_put O f_Mod_104 d_Mod_twist_108 rfl (Nat.le_of_ble_eq_true rfl) (fun _ => rfl) (fun _ => rfl) (by dsimp only [List.set]) ?_
  refine zi_goto O 127 d_Mod_twist_111 (by decide) ?_
  refine zi_iload_n O d_Mod_twist_127 rfl ?_
  refine zi_if_eq O 151 d_Mod_twist_128 (by decide) (fun c128 => ?_) (fun c128 => ?_)
  rotate_left
  · exact absurd rfl c128
  refine zi_iload_n O d_Mod_twist_151 rfl ?_
  refine zi_if_eq O 171 d_Mod_twist_152 (by decide) (fun c152 => ?_) (fun c152 => ?_)
  rotate_left
  · exact absurd rfl c152
  refine zi_iload_n O d_Mod_twist_171 rfl ?_
  refine zi_if_le O 191 d_Mod_twist_172 (by decide) (fun c172 => ?_) (fun c172 => ?_)
  rotate_left
  · exact absurd (by decide) c172
  refine zi_aload_n O d_Mod_twist_191 rfl ?_
  refine zi_iconst (v := -1) O d_Mod_twist_192 (by decide) ?_
  refine zi_iload O d_Mod_twist_193 rfl ?_
  refine zi_iload O d_Mod_twist_195 rfl ?_
  refine zi_iload O d_Mod_twist_197 rfl ?_
  refine zi_iload O d_Mod_twist_199 rfl ?_
  refine zi_selfV O c_Mod_186 k_Mod_add (m_Mod_add (by omega) (-1) (nI (fN el (fN el 0 (2 * n)) (2 * n))) (nI (fN el 0 (2 * n))) (nI (fN el 0 (2 * n))) (nI (fN el (fN el 0 (2 * n)) (2 * n)))) d_Mod_twist_201 ⟨(Nat.le_of_ble_eq_true rfl), (Nat.le_of_ble_eq_true rfl)⟩ ⟨(Nat.le_of_ble_eq_true rfl), (Nat.le_of_ble_eq_true rfl)⟩ rfl rfl (Nat.le_of_ble_eq_true rfl) rfl rfl rfl (Nat.le_of_ble_eq_true rfl) rfl (fun r h' hq hl => ?_)
  obtain ⟨rfl, rfl⟩ := hq
  refine zi_st (st' := []) rfl ?_
  refine zi_iconstN O 1 d_Mod_twist_204 (by decide) ?_
  refine zi_zret O d_Mod_twist_205 rfl (Nat.le_of_ble_eq_true rfl) (Nat.le_of_ble_eq_true rfl) (Nat.le_of_ble_eq_true rfl) ?_
  refine ⟨rfl, _, _, _, _, _, _, _, _, _, _, _, _, _, _, _, _, _, _, _, _, _, rfl, ?_, sg_upd hS _, sg_add hG (by decide), hPR, hPS, hPG⟩
  exact rowOK_ad hR hn20 (by omega) (by omega) (by omega) (by omega)
set_option maxHeartbeats 1000000 in
theorem m_Mod_twist_e_tp (hM : Mdl k plab T n lab S0 ci h) (hE : Ed n lab S0 el fr to_ at_) (hn20 : n < 20) (e : Nat) (he : e < 2 * n) : zMet y_Mod_twist b_Mod_twist 8 (some .boolean) ⟨7, 0, 0, 200⟩ [.ref 0, .int (nI (el e)), .int (nI 1), .int (bI true)] h (fun r h' => r = some (.int (nI 1)) ∧ Mdl k plab T (n + 1) (cr (va_up lab (to_ e) (fN el (fN el 0 (2 * n)) (2 * n))) n (nI 1) true (!true) (el e) (fN el 0 (2 * n)) (fN el (fN el 0 (2 * n)) (2 * n)) (el e) (fN el 0 (2 * n)) (fN el (fN el 0 (2 * n)) (2 * n))) (upd S0 n (nI 1)) ci h') := by
  obtain ⟨wrong, pS, pL, oN, oC, S, L, oS, oL, labs, row, fresh, piece, closed, faces, comp, fof, sides, side, free, arnd, rfl, hR, hS, hG, hPR, hPS, hPG⟩ := hM
  have hn := hR.1
  have hE' := ed_same hE (fun _ _ => rfl) hS
  have hG' := sg_same hG hS
  have bu := fN_le el 0 (2 * n)
  have bv := fN_le el (fN el 0 (2 * n)) (2 * n)
  have be := el_ok hR hE he
  obtain ⟨f1, f2, -⟩ := hE.1 e he
  refine zMet_of (plainFor_of_name (by decide +kernel)) rfl (Nat.le_of_ble_eq_true rfl) (fun z1 z2 z3 z4 z5 z6 z7 z8 z9 z10 z11 z12 z13 z14 O hin => ?_)
  refine zi_ls (ls' := [some (.ref 0), some (.int (nI (el e))), some (.int (nI 1)), some (.int (bI true)), none, none, none, none]) rfl ?_
  refine zi_iload_n O d_Mod_twist_0 rfl ?_
  refine zi_if_ne O 19 d_Mod_twist_1 (by decide) (fun c1 => ?_) (fun c1 => ?_)
  rotate_left
  · exact absurd (nI_zero (a := el e) (by omega) (by first | exact c1 | exact Classical.not_not.mp c1)) (by omega)
  refine zi_iload_n O d_Mod_twist_19 rfl ?_
  refine zi_if_le O 36 d_Mod_twist_20 (by decide) (fun c20 => ?_) (fun c20 => ?_)
  · exact absurd c20 (nI_nle (by omega) (by omega))
  refine zi_aload_n O d_Mod_twist_23 rfl ?_
  refine zi_iload_n O d_Mod_twist_24 rfl ?_
  refine zi_iconstN O 1 d_Mod_twist_25 (by decide) ?_
  refine zi_selfP O c_Mod_66 k_Mod_placeOf (m_Mod_fr hR hG' hE' he) d_Mod_twist_26 ⟨(Nat.le_of_ble_eq_true rfl), (Nat.le_of_ble_eq_true rfl)⟩ ⟨(Nat.le_of_ble_eq_true rfl), (Nat.le_of_ble_eq_true rfl)⟩ rfl rfl (Nat.le_of_ble_eq_true rfl) rfl rfl rfl (Nat.le_of_ble_eq_true rfl) rfl ?_
  refine zi_if_lt O 36 d_Mod_twist_29 (by decide) (fun c29 => ?_) (fun c29 => ?_)
  · exact absurd c29 (nI_pos (by omega))
  refine zi_iconstN O 1 d_Mod_twist_32 (by decide) ?_
  refine zi_goto O 37 d_Mod_twist_33 (by decide) ?_
  refine zi_istore (ls' := _ :: _ :: _ :: _ :: some _ :: _) O d_Mod_twist_37 rfl (by decide) rfl ?_
  refine zi_iload O d_Mod_twist_39 rfl ?_
  refine zi_if_eq O 63 d_Mod_twist_41 (by decide) (fun c41 => ?_) (fun c41 => ?_)
  · exact absurd c41 (by decide)
  refine zi_iload_n O d_Mod_twist_44 rfl ?_
  refine zi_iconstN O 1 d_Mod_twist_45 (by decide) ?_
  refine zi_icmp_eq O 54 d_Mod_twist_46 (by decide) (fun c46 => ?_) (fun c46 => ?_)
  rotate_left
  · exact absurd rfl c46
  refine zi_aload_n O d_Mod_twist_54 rfl ?_
  refine zi_get O f_Mod_59 d_Mod_twist_55 rfl rfl ?_
  refine zi_bipushN O 20 d_Mod_twist_58 (by decide) ?_
  refine zi_icmp_neN O 65 d_Mod_twist_60 (by decide) (by omega) (by omega) (fun c60 => ?_) (fun c60 => ?_)
  rotate_left
  · omega
  refine zi_aload_n O d_Mod_twist_65 rfl ?_
  refine zi_selfV O c_Mod_136 k_Mod_findFree (m_Mod_findFree hR hE') d_Mod_twist_66 ⟨(Nat.le_of_ble_eq_true rfl), (Nat.le_of_ble_eq_true rfl)⟩ ⟨(Nat.le_of_ble_eq_true rfl), (Nat.le_of_ble_eq_true rfl)⟩ rfl rfl (Nat.le_of_ble_eq_true rfl) rfl rfl rfl (Nat.le_of_ble_eq_true rfl) rfl (fun r h' hq hl => ?_)
  obtain ⟨rfl, row', free', rfl, -, hf⟩ := hq
  refine zi_st (st' := []) rfl ?_
  have e0 : free' 0 = nI (fN el 0 (2 * n)) := hf 0 (by decide)
  have e1 : free' 1 = nI (fN el (fN el 0 (2 * n)) (2 * n)) := hf 1 (by decide)
  refine zi_aload_n O d_Mod_twist_69 rfl ?_
  refine zi_get O f_Mod_50 d_Mod_twist_70 rfl rfl ?_
  refine zi_iconstN O 0 d_Mod_twist_73 (by decide) ?_
  refine zi_iald O d_Mod_twist_74 rfl rfl (by omega) (Nat.le_of_ble_eq_true rfl) ?_
  rw [e0]
  refine zi_istore (ls' := _ :: _ :: _ :: _ :: _ :: some _ :: _) O d_Mod_twist_75 rfl (by decide) rfl ?_
  refine zi_aload_n O d_Mod_twist_77 rfl ?_
  refine zi_get O f_Mod_50 d_Mod_twist_78 rfl rfl ?_
  refine zi_iconstN O 1 d_Mod_twist_81 (by decide) ?_
  refine zi_iald O d_Mod_twist_82 rfl rfl (by omega) (Nat.le_of_ble_eq_true rfl) ?_
  rw [e1]
  refine zi_istore (ls' := _ :: _ :: _ :: _ :: _ :: _ :: some _ :: _) O d_Mod_twist_83 rfl (by decide) rfl ?_
  refine zi_iload_n O d_Mod_twist_85 rfl ?_
  refine zi_if_ne O 94 d_Mod_twist_86 (by decide) (fun c86 => ?_) (fun c86 => ?_)
  rotate_left
  · exact absurd (nI_zero (a := el e) (by omega) (by first | exact c86 | exact Classical.not_not.mp c86)) (by omega)
  refine zi_iload_n O d_Mod_twist_94 rfl ?_
  refine zi_istore (ls' := _ :: _ :: _ :: _ :: _ :: _ :: _ :: some _ :: _) O d_Mod_twist_95 rfl (by decide) rfl ?_
  refine zi_iload_n O d_Mod_twist_97 rfl ?_
  refine zi_if_ne O 114 d_Mod_twist_98 (by decide) (fun c98 => ?_) (fun c98 => ?_)
  rotate_left
  · exact absurd (nI_zero (a := el e) (by omega) (by first | exact c98 | exact Classical.not_not.mp c98)) (by omega)
  refine zi_aload_n O d_Mod_twist_114 rfl ?_
  refine zi_get O f_Mod_23 d_Mod_twist_115 rfl rfl ?_
  refine zi_aload_n O d_Mod_twist_118 rfl ?_
  refine zi_iload_n O d_Mod_twist_119 rfl ?_
  refine zi_iconstN O 0 d_Mod_twist_120 (by decide) ?_
  refine zi_selfP O c_Mod_66 k_Mod_placeOf (m_Mod_to hR hG' hE' he) d_Mod_twist_121 ⟨(Nat.le_of_ble_eq_true rfl), (Nat.le_of_ble_eq_true rfl)⟩ ⟨(Nat.le_of_ble_eq_true rfl), (Nat.le_of_ble_eq_true rfl)⟩ rfl rfl (Nat.le_of_ble_eq_true rfl) rfl rfl rfl (Nat.le_of_ble_eq_true rfl) rfl ?_
  refine zi_iload O d_Mod_twist_124 rfl ?_
  refine zi_iast O d_Mod_twist_126 rfl rfl (by omega) (Nat.le_of_ble_eq_true rfl) (by dsimp only [List.set]) ?_
  refine zi_iload_n O d_Mod_twist_127 rfl ?_
  refine zi_if_eq O 151 d_Mod_twist_128 (by decide) (fun c128 => ?_) (fun c128 => ?_)
  · exact absurd c128 (by decide)
  refine zi_iload_n O d_Mod_twist_131 rfl ?_
  refine zi_if_le O 151 d_Mod_twist_132 (by decide) (fun c132 => ?_) (fun c132 => ?_)
  · exact absurd c132 (by decide)
  refine zi_aload_n O d_Mod_twist_135 rfl ?_
  refine zi_iconstN O 1 d_Mod_twist_136 (by decide) ?_
  refine zi_iload O d_Mod_twist_137 rfl ?_
  refine zi_iload O d_Mod_twist_139 rfl ?_
  refine zi_iload O d_Mod_twist_141 rfl ?_
  refine zi_iload O d_Mod_twist_143 rfl ?_
  refine zi_selfV O c_Mod_186 k_Mod_add (m_Mod_add (by omega) (nI 1) (nI (fN el 0 (2 * n))) (nI (fN el 0 (2 * n))) (nI (fN el (fN el 0 (2 * n)) (2 * n))) (nI (el e))) d_Mod_twist_145 ⟨(Nat.le_of_ble_eq_true rfl), (Nat.le_of_ble_eq_true rfl)⟩ ⟨(Nat.le_of_ble_eq_true rfl), (Nat.le_of_ble_eq_true rfl)⟩ rfl rfl (Nat.le_of_ble_eq_true rfl) rfl rfl rfl (Nat.le_of_ble_eq_true rfl) rfl (fun r h' hq hl => ?_)
  obtain ⟨rfl, rfl⟩ := hq
  refine zi_st (st' := []) rfl ?_
  refine zi_goto O 204 d_Mod_twist_148 (by decide) ?_
  refine zi_iconstN O 1 d_Mod_twist_204 (by decide) ?_
  refine zi_zret O d_Mod_twist_205 rfl (Nat.le_of_ble_eq_true rfl) (Nat.le_of_ble_eq_true rfl) (Nat.le_of_ble_eq_true rfl) ?_
  refine ⟨rfl, _, _, _, _, _, _, _, _, _, _, _, _, _, _, _, _, _, _, _, _, _, rfl, ?_, sg_upd hS _, sg_add hG (by decide), hPR, hPS, hPG⟩
  exact rowOK_ad (rowOK_up hR (to_ e) (fN el (fN el 0 (2 * n)) (2 * n)) (by omega)) hn20 (by omega) (by omega) (by omega) (by omega)
set_option maxHeartbeats 1000000 in
theorem m_Mod_twist_e_tm (hM : Mdl k plab T n lab S0 ci h) (hE : Ed n lab S0 el fr to_ at_) (hn20 : n < 20) (e : Nat) (he : e < 2 * n) : zMet y_Mod_twist b_Mod_twist 8 (some .boolean) ⟨7, 0, 0, 200⟩ [.ref 0, .int (nI (el e)), .int (-1), .int (bI true)] h (fun r h' => r = some (.int (nI 1)) ∧ Mdl k plab T (n + 1) (cr (va_up lab (to_ e) (fN el (fN el 0 (2 * n)) (2 * n))) n (-1) true (!true) (el e) (fN el 0 (2 * n)) (fN el (fN el 0 (2 * n)) (2 * n)) (el e) (fN el 0 (2 * n)) (fN el (fN el 0 (2 * n)) (2 * n))) (upd S0 n (-1)) ci h') := by
  obtain ⟨wrong, pS, pL, oN, oC, S, L, oS, oL, labs, row, fresh, piece, closed, faces, comp, fof, sides, side, free, arnd, rfl, hR, hS, hG, hPR, hPS, hPG⟩ := hM
  have hn := hR.1
  have hE' := ed_same hE (fun _ _ => rfl) hS
  have hG' := sg_same hG hS
  have bu := fN_le el 0 (2 * n)
  have bv := fN_le el (fN el 0 (2 * n)) (2 * n)
  have be := el_ok hR hE he
  obtain ⟨f1, f2, -⟩ := hE.1 e he
  refine zMet_of (plainFor_of_name (by decide +kernel)) rfl (Nat.le_of_ble_eq_true rfl) (fun z1 z2 z3 z4 z5 z6 z7 z8 z9 z10 z11 z12 z13 z14 O hin => ?_)
  refine zi_ls (ls' := [some (.ref 0), some (.int (nI (el e))), some (.int (-1)), some (.int (bI true)), none, none, none, none]) rfl ?_
  refine zi_iload_n O d_Mod_twist_0 rfl ?_
  refine zi_if_ne O 19 d_Mod_twist_1 (by decide) (fun c1 => ?_) (fun c1 => ?_)
  rotate_left
  · exact absurd (nI_zero (a := el e) (by omega) (by first | exact c1 | exact Classical.not_not.mp c1)) (by omega)
  refine zi_iload_n O d_Mod_twist_19 rfl ?_
  refine zi_if_le O 36 d_Mod_twist_20 (by decide) (fun c20 => ?_) (fun c20 => ?_)
  · exact absurd c20 (nI_nle (by omega) (by omega))
  refine zi_aload_n O d_Mod_twist_23 rfl ?_
  refine zi_iload_n O d_Mod_twist_24 rfl ?_
  refine zi_iconstN O 1 d_Mod_twist_25 (by decide) ?_
  refine zi_selfP O c_Mod_66 k_Mod_placeOf (m_Mod_fr hR hG' hE' he) d_Mod_twist_26 ⟨(Nat.le_of_ble_eq_true rfl), (Nat.le_of_ble_eq_true rfl)⟩ ⟨(Nat.le_of_ble_eq_true rfl), (Nat.le_of_ble_eq_true rfl)⟩ rfl rfl (Nat.le_of_ble_eq_true rfl) rfl rfl rfl (Nat.le_of_ble_eq_true rfl) rfl ?_
  refine zi_if_lt O 36 d_Mod_twist_29 (by decide) (fun c29 => ?_) (fun c29 => ?_)
  · exact absurd c29 (nI_pos (by omega))
  refine zi_iconstN O 1 d_Mod_twist_32 (by decide) ?_
  refine zi_goto O 37 d_Mod_twist_33 (by decide) ?_
  refine zi_istore (ls' := _ :: _ :: _ :: _ :: some _ :: _) O d_Mod_twist_37 rfl (by decide) rfl ?_
  refine zi_iload O d_Mod_twist_39 rfl ?_
  refine zi_if_eq O 63 d_Mod_twist_41 (by decide) (fun c41 => ?_) (fun c41 => ?_)
  · exact absurd c41 (by decide)
  refine zi_iload_n O d_Mod_twist_44 rfl ?_
  refine zi_iconstN O 1 d_Mod_twist_45 (by decide) ?_
  refine zi_icmp_eq O 54 d_Mod_twist_46 (by decide) (fun c46 => ?_) (fun c46 => ?_)
  · exact absurd c46 (by decide)
  refine zi_iload_n O d_Mod_twist_49 rfl ?_
  refine zi_iconst (v := -1) O d_Mod_twist_50 (by decide) ?_
  refine zi_icmp_ne O 63 d_Mod_twist_51 (by decide) (fun c51 => ?_) (fun c51 => ?_)
  · exact absurd rfl c51
  refine zi_aload_n O d_Mod_twist_54 rfl ?_
  refine zi_get O f_Mod_59 d_Mod_twist_55 rfl rfl ?_
  refine zi_bipushN O 20 d_Mod_twist_58 (by decide) ?_
  refine zi_icmp_neN O 65 d_Mod_twist_60 (by decide) (by omega) (by omega) (fun c60 => ?_) (fun c60 => ?_)
  rotate_left
  · omega
  refine zi_aload_n O d_Mod_twist_65 rfl ?_
  refine zi_selfV O c_Mod_136 k_Mod_findFree (m_Mod_findFree hR hE') d_Mod_twist_66 ⟨(Nat.le_of_ble_eq_true rfl), (Nat.le_of_ble_eq_true rfl)⟩ ⟨(Nat.le_of_ble_eq_true rfl), (Nat.le_of_ble_eq_true rfl)⟩ rfl rfl (Nat.le_of_ble_eq_true rfl) rfl rfl rfl (Nat.le_of_ble_eq_true rfl) rfl (fun r h' hq hl => ?_)
  obtain ⟨rfl, row', free', rfl, -, hf⟩ := hq
  refine zi_st (st' := []) rfl ?_
  have e0 : free' 0 = nI (fN el 0 (2 * n)) := hf 0 (by decide)
  have e1 : free' 1 = nI (fN el (fN el 0 (2 * n)) (2 * n)) := hf 1 (by decide)
  refine zi_aload_n O d_Mod_twist_69 rfl ?_
  refine zi_get O f_Mod_50 d_Mod_twist_70 rfl rfl ?_
  refine zi_iconstN O 0 d_Mod_twist_73 (by decide) ?_
  refine zi_iald O d_Mod_twist_74 rfl rfl (by omega) (Nat.le_of_ble_eq_true rfl) ?_
  rw [e0]
  refine zi_istore (ls' := _ :: _ :: _ :: _ :: _ :: some _ :: _) O d_Mod_twist_75 rfl (by decide) rfl ?_
  refine zi_aload_n O d_Mod_twist_77 rfl ?_
  refine zi_get O f_Mod_50 d_Mod_twist_78 rfl rfl ?_
  refine zi_iconstN O 1 d_Mod_twist_81 (by decide) ?_
  refine zi_iald O d_Mod_twist_82 rfl rfl (by omega) (Nat.le_of_ble_eq_true rfl) ?_
  rw [e1]
  refine zi_istore (ls' := _ :: _ :: _ :: _ :: _ :: _ :: some _ :: _) O d_Mod_twist_83 rfl (by decide) rfl ?_
  refine zi_iload_n O d_Mod_twist_85 rfl ?_
  refine zi_if_ne O 94 d_Mod_twist_86 (by decide) (fun c86 => ?_) (fun c86 => ?_)
  rotate_left
  · exact absurd (nI_zero (a := el e) (by omega) (by first | exact c86 | exact Classical.not_not.mp c86)) (by omega)
  refine zi_iload_n O d_Mod_twist_94 rfl ?_
  refine zi_istore (ls' := _ :: _ :: _ :: _ :: _ :: _ :: _ :: some _ :: _) O d_Mod_twist_95 rfl (by decide) rfl ?_
  refine zi_iload_n O d_Mod_twist_97 rfl ?_
  refine zi_if_ne O 114 d_Mod_twist_98 (by decide) (fun c98 => ?_) (fun c98 => ?_)
  rotate_left
  · exact absurd (nI_zero (a := el e) (by omega) (by first | exact c98 | exact Classical.not_not.mp c98)) (by omega)
  refine zi_aload_n O d_Mod_twist_114 rfl ?_
  refine zi_get O f_Mod_23 d_Mod_twist_115 rfl rfl ?_
  refine zi_aload_n O d_Mod_twist_118 rfl ?_
  refine zi_iload_n O d_Mod_twist_119 rfl ?_
  refine zi_iconstN O 0 d_Mod_twist_120 (by decide) ?_
  refine zi_selfP O c_Mod_66 k_Mod_placeOf (m_Mod_to hR hG' hE' he) d_Mod_twist_121 ⟨(Nat.le_of_ble_eq_true rfl), (Nat.le_of_ble_eq_true rfl)⟩ ⟨(Nat.le_of_ble_eq_true rfl), (Nat.le_of_ble_eq_true rfl)⟩ rfl rfl (Nat.le_of_ble_eq_true rfl) rfl rfl rfl (Nat.le_of_ble_eq_true rfl) rfl ?_
  refine zi_iload O d_Mod_twist_124 rfl ?_
  refine zi_iast O d_Mod_twist_126 rfl rfl (by omega) (Nat.le_of_ble_eq_true rfl) (by dsimp only [List.set]) ?_
  refine zi_iload_n O d_Mod_twist_127 rfl ?_
  refine zi_if_eq O 151 d_Mod_twist_128 (by decide) (fun c128 => ?_) (fun c128 => ?_)
  · exact absurd c128 (by decide)
  refine zi_iload_n O d_Mod_twist_131 rfl ?_
  refine zi_if_le O 151 d_Mod_twist_132 (by decide) (fun c132 => ?_) (fun c132 => ?_)
  rotate_left
  · exact absurd (by decide) c132
  refine zi_iload_n O d_Mod_twist_151 rfl ?_
  refine zi_if_eq O 171 d_Mod_twist_152 (by decide) (fun c152 => ?_) (fun c152 => ?_)
  · exact absurd c152 (by decide)
  refine zi_aload_n O d_Mod_twist_155 rfl ?_
  refine zi_iconst (v := -1) O d_Mod_twist_156 (by decide) ?_
  refine zi_iload O d_Mod_twist_157 rfl ?_
  refine zi_iload O d_Mod_twist_159 rfl ?_
  refine zi_iload O d_Mod_twist_161 rfl ?_
  refine zi_iload O d_Mod_twist_163 rfl ?_
  refine zi_selfV O c_Mod_186 k_Mod_add (m_Mod_add (by omega) (-1) (nI (fN el 0 (2 * n))) (nI (el e)) (nI (fN el (fN el 0 (2 * n)) (2 * n))) (nI (fN el 0 (2 * n)))) d_Mod_twist_165 ⟨(Nat.le_of_ble_eq_true rfl), (Nat.le_of_ble_eq_true rfl)⟩ ⟨(Nat.le_of_ble_eq_true rfl), (Nat.le_of_ble_eq_true rfl)⟩ rfl rfl (Nat.le_of_ble_eq_true rfl) rfl rfl rfl (Nat.le_of_ble_eq_true rfl) rfl (fun r h' hq hl => ?_)
  obtain ⟨rfl, rfl⟩ := hq
  refine zi_st (st' := []) rfl ?_
  refine zi_goto O 204 d_Mod_twist_168 (by decide) ?_
  refine zi_iconstN O 1 d_Mod_twist_204 (by decide) ?_
  refine zi_zret O d_Mod_twist_205 rfl (Nat.le_of_ble_eq_true rfl) (Nat.le_of_ble_eq_true rfl) (Nat.le_of_ble_eq_true rfl) ?_
  refine ⟨rfl, _, _, _, _, _, _, _, _, _, _, _, _, _, _, _, _, _, _, _, _, _, rfl, ?_, sg_upd hS _, sg_add hG (by decide), hPR, hPS, hPG⟩
  exact rowOK_ad (rowOK_up hR (to_ e) (fN el (fN el 0 (2 * n)) (2 * n)) (by omega)) hn20 (by omega) (by omega) (by omega) (by omega)
set_option maxHeartbeats 1000000 in
theorem m_Mod_twist_e_fp (hM : Mdl k plab T n lab S0 ci h) (hE : Ed n lab S0 el fr to_ at_) (hn20 : n < 20) (e : Nat) (he : e < 2 * n) : zMet y_Mod_twist b_Mod_twist 8 (some .boolean) ⟨7, 0, 0, 200⟩ [.ref 0, .int (nI (el e)), .int (nI 1), .int (bI false)] h (fun r h' => r = some (.int (nI 1)) ∧ Mdl k plab T (n + 1) (cr (va_up lab (to_ e) (fN el (fN el 0 (2 * n)) (2 * n))) n (nI 1) false (!false) (el e) (fN el 0 (2 * n)) (fN el (fN el 0 (2 * n)) (2 * n)) (el e) (fN el 0 (2 * n)) (fN el (fN el 0 (2 * n)) (2 * n))) (upd S0 n (nI 1)) ci h') := by
  obtain ⟨wrong, pS, pL, oN, oC, S, L, oS, oL, labs, row, fresh, piece, closed, faces, comp, fof, sides, side, free, arnd, rfl, hR, hS, hG, hPR, hPS, hPG⟩ := hM
  have hn := hR.1
  have hE' := ed_same hE (fun _ _ => rfl) hS
  have hG' := sg_same hG hS
  have bu := fN_le el 0 (2 * n)
  have bv := fN_le el (fN el 0 (2 * n)) (2 * n)
  have be := el_ok hR hE he
  obtain ⟨f1, f2, -⟩ := hE.1 e he
  refine zMet_of (plainFor_of_name (by decide +kernel)) rfl (Nat.le_of_ble_eq_true rfl) (fun z1 z2 z3 z4 z5 z6 z7 z8 z9 z10 z11 z12 z13 z14 O hin => ?_)
  refine zi_ls (ls' := [some (.ref 0), some (.int (nI (el e))), some (.int (nI 1)), some (.int (bI false)), none, none, none, none]) rfl ?_
  refine zi_iload_n O d_Mod_twist_0 rfl ?_
  refine zi_if_ne O 19 d_Mod_twist_1 (by decide) (fun c1 => ?_) (fun c1 => ?_)
  rotate_left
  · exact absurd (nI_zero (a := el e) (by omega) (by first | exact c1 | exact Classical.not_not.mp c1)) (by omega)
  refine zi_iload_n O d_Mod_twist_19 rfl ?_
  refine zi_if_le O 36 d_Mod_twist_20 (by decide) (fun c20 => ?_) (fun c20 => ?_)
  · exact absurd c20 (nI_nle (by omega) (by omega))
  refine zi_aload_n O d_Mod_twist_23 rfl ?_
  refine zi_iload_n O d_Mod_twist_24 rfl ?_
  refine zi_iconstN O 1 d_Mod_twist_25 (by decide) ?_
  refine zi_selfP O c_Mod_66 k_Mod_placeOf (m_Mod_fr hR hG' hE' he) d_Mod_twist_26 ⟨(Nat.le_of_ble_eq_true rfl), (Nat.le_of_ble_eq_true rfl)⟩ ⟨(Nat.le_of_ble_eq_true rfl), (Nat.le_of_ble_eq_true rfl)⟩ rfl rfl (Nat.le_of_ble_eq_true rfl) rfl rfl rfl (Nat.le_of_ble_eq_true rfl) rfl ?_
  refine zi_if_lt O 36 d_Mod_twist_29 (by decide) (fun c29 => ?_) (fun c29 => ?_)
  · exact absurd c29 (nI_pos (by omega))
  refine zi_iconstN O 1 d_Mod_twist_32 (by decide) ?_
  refine zi_goto O 37 d_Mod_twist_33 (by decide) ?_
  refine zi_istore (ls' := _ :: _ :: _ :: _ :: some _ :: _) O d_Mod_twist_37 rfl (by decide) rfl ?_
  refine zi_iload O d_Mod_twist_39 rfl ?_
  refine zi_if_eq O 63 d_Mod_twist_41 (by decide) (fun c41 => ?_) (fun c41 => ?_)
  · exact absurd c41 (by decide)
  refine zi_iload_n O d_Mod_twist_44 rfl ?_
  refine zi_iconstN O 1 d_Mod_twist_45 (by decide) ?_
  refine zi_icmp_eq O 54 d_Mod_twist_46 (by decide) (fun c46 => ?_) (fun c46 => ?_)
  rotate_left
  · exact absurd rfl c46
  refine zi_aload_n O d_Mod_twist_54 rfl ?_
  refine zi_get O f_Mod_59 d_Mod_twist_55 rfl rfl ?_
  refine zi_bipushN O 20 d_Mod_twist_58 (by decide) ?_
  refine zi_icmp_neN O 65 d_Mod_twist_60 (by decide) (by omega) (by omega) (fun c60 => ?_) (fun c60 => ?_)
  rotate_left
  · omega
  refine zi_aload_n O d_Mod_twist_65 rfl ?_
  refine zi_selfV O c_Mod_136 k_Mod_findFree (m_Mod_findFree hR hE') d_Mod_twist_66 ⟨(Nat.le_of_ble_eq_true rfl), (Nat.le_of_ble_eq_true rfl)⟩ ⟨(Nat.le_of_ble_eq_true rfl), (Nat.le_of_ble_eq_true rfl)⟩ rfl rfl (Nat.le_of_ble_eq_true rfl) rfl rfl rfl (Nat.le_of_ble_eq_true rfl) rfl (fun r h' hq hl => ?_)
  obtain ⟨rfl, row', free', rfl, -, hf⟩ := hq
  refine zi_st (st' := []) rfl ?_
  have e0 : free' 0 = nI (fN el 0 (2 * n)) := hf 0 (by decide)
  have e1 : free' 1 = nI (fN el (fN el 0 (2 * n)) (2 * n)) := hf 1 (by decide)
  refine zi_aload_n O d_Mod_twist_69 rfl ?_
  refine zi_get O f_Mod_50 d_Mod_twist_70 rfl rfl ?_
  refine zi_iconstN O 0 d_Mod_twist_73 (by decide) ?_
  refine zi_iald O d_Mod_twist_74 rfl rfl (by omega) (Nat.le_of_ble_eq_true rfl) ?_
  rw [e0]
  refine zi_istore (ls' := _ :: _ :: _ :: _ :: _ :: some _ :: _) O d_Mod_twist_75 rfl (by decide) rfl ?_
  refine zi_aload_n O d_Mod_twist_77 rfl ?_
  refine zi_get O f_Mod_50 d_Mod_twist_78 rfl rfl ?_
  refine zi_iconstN O 1 d_Mod_twist_81 (by decide) ?_
  refine zi_iald O d_Mod_twist_82 rfl rfl (by omega) (Nat.le_of_ble_eq_true rfl) ?_
  rw [e1]
  refine zi_istore (ls' := _ :: _ :: _ :: _ :: _ :: _ :: some _ :: _) O d_Mod_twist_83 rfl (by decide) rfl ?_
  refine zi_iload_n O d_Mod_twist_85 rfl ?_
  refine zi_if_ne O 94 d_Mod_twist_86 (by decide) (fun c86 => ?_) (fun c86 => ?_)
  rotate_left
  · exact absurd (nI_zero (a := el e) (by omega) (by first | exact c86 | exact Classical.not_not.mp c86)) (by omega)
  refine zi_iload_n O d_Mod_twist_94 rfl ?_
  refine zi_istore (ls' := _ :: _ :: _ :: _ :: _ :: _ :: _ :: some _ :: _) O d_Mod_twist_95 rfl (by decide) rfl ?_
  refine zi_iload_n O d_Mod_twist_97 rfl ?_
  refine zi_if_ne O 114 d_Mod_twist_98 (by decide) (fun c98 => ?_) (fun c98 => ?_)
  rotate_left
  · exact absurd (nI_zero (a := el e) (by omega) (by first | exact c98 | exact Classical.not_not.mp c98)) (by omega)
  refine zi_aload_n O d_Mod_twist_114 rfl ?_
  refine zi_get O f_Mod_23 d_Mod_twist_115 rfl rfl ?_
  refine zi_aload_n O d_Mod_twist_118 rfl ?_
  refine zi_iload_n O d_Mod_twist_119 rfl ?_
  refine zi_iconstN O 0 d_Mod_twist_120 (by decide) ?_
  refine zi_selfP O c_Mod_66 k_Mod_placeOf (m_Mod_to hR hG' hE' he) d_Mod_twist_121 ⟨(Nat.le_of_ble_eq_true rfl), (Nat.le_of_ble_eq_true rfl)⟩ ⟨(Nat.le_of_ble_eq_true rfl), (Nat.le_of_ble_eq_true rfl)⟩ rfl rfl (Nat.le_of_ble_eq_true rfl) rfl rfl rfl (Nat.le_of_ble_eq_true rfl) rfl ?_
  refine zi_iload O d_Mod_twist_124 rfl ?_
  refine zi_iast O d_Mod_twist_126 rfl rfl (by omega) (Nat.le_of_ble_eq_true rfl) (by dsimp only [List.set]) ?_
  refine zi_iload_n O d_Mod_twist_127 rfl ?_
  refine zi_if_eq O 151 d_Mod_twist_128 (by decide) (fun c128 => ?_) (fun c128 => ?_)
  rotate_left
  · exact absurd rfl c128
  refine zi_iload_n O d_Mod_twist_151 rfl ?_
  refine zi_if_eq O 171 d_Mod_twist_152 (by decide) (fun c152 => ?_) (fun c152 => ?_)
  rotate_left
  · exact absurd rfl c152
  refine zi_iload_n O d_Mod_twist_171 rfl ?_
  refine zi_if_le O 191 d_Mod_twist_172 (by decide) (fun c172 => ?_) (fun c172 => ?_)
  · exact absurd c172 (by decide)
  refine zi_aload_n O d_Mod_twist_175 rfl ?_
  refine zi_iconstN O 1 d_Mod_twist_176 (by decide) ?_
  refine zi_iload O d_Mod_twist_177 rfl ?_
  refine zi_iload O d_Mod_twist_179 rfl ?_
  refine zi_iload O d_Mod_twist_181 rfl ?_
  refine zi_iload O d_Mod_twist_183 rfl ?_
  refine zi_selfV O c_Mod_186 k_Mod_add (m_Mod_add (by omega) (nI 1) (nI (el e)) (nI (fN el (fN el 0 (2 * n)) (2 * n))) (nI (fN el 0 (2 * n))) (nI (fN el 0 (2 * n)))) d_Mod_twist_185 ⟨(Nat.le_of_ble_eq_true rfl), (Nat.le_of_ble_eq_true rfl)⟩ ⟨(Nat.le_of_ble_eq_true rfl), (Nat.le_of_ble_eq_true rfl)⟩ rfl rfl (Nat.le_of_ble_eq_true rfl) rfl rfl rfl (Nat.le_of_ble_eq_true rfl) rfl (fun r h' hq hl => ?_)
  obtain ⟨rfl, rfl⟩ := hq
  refine zi_st (st' := []) rfl ?_
  refine zi_goto O 204 d_Mod_twist_188 (by decide) ?_
  refine zi_iconstN O 1 d_Mod_twist_204 (by decide) ?_
  refine zi_zret O d_Mod_twist_205 rfl (Nat.le_of_ble_eq_true rfl) (Nat.le_of_ble_eq_true rfl) (Nat.le_of_ble_eq_true rfl) ?_
  refine ⟨rfl, _, _, _, _, _, _, _, _, _, _, _, _, _, _, _, _, _, _, _, _, _, rfl, ?_, sg_upd hS _, sg_add hG (by decide), hPR, hPS, hPG⟩
  exact rowOK_ad (rowOK_up hR (to_ e) (fN el (fN el 0 (2 * n)) (2 * n)) (by omega)) hn20 (by omega) (by omega) (by omega) (by omega)
set_option maxHeartbeats 1000000 in
theorem m_Mod_twist_e_fm (hM : Mdl k plab T n lab S0 ci h) (hE : Ed n lab S0 el fr to_ at_) (hn20 : n < 20) (e : Nat) (he : e < 2 * n) : zMet y_Mod_twist b_Mod_twist 8 (some .boolean) ⟨7, 0, 0, 200⟩ [.ref 0, .int (nI (el e)), .int (-1), .int (bI false)] h (fun r h' => r = some (.int (nI 1)) ∧ Mdl k plab T (n + 1) (cr (va_up lab (to_ e) (fN el (fN el 0 (2 * n)) (2 * n))) n (-1) false (!false) (el e) (fN el 0 (2 * n)) (fN el (fN el 0 (2 * n)) (2 * n)) (el e) (fN el 0 (2 * n)) (fN el (fN el 0 (2 * n)) (2 * n))) (upd S0 n (-1)) ci h') := by
  obtain ⟨wrong, pS, pL, oN, oC, S, L, oS, oL, labs, row, fresh, piece, closed, faces, comp, fof, sides, side, free, arnd, rfl, hR, hS, hG, hPR, hPS, hPG⟩ := hM
  have hn := hR.1
  have hE' := ed_same hE (fun _ _ => rfl) hS
  have hG' := sg_same hG hS
  have bu := fN_le el 0 (2 * n)
  have bv := fN_le el (fN el 0 (2 * n)) (2 * n)
  have be := el_ok hR hE he
  obtain ⟨f1, f2, -⟩ := hE.1 e he
  refine zMet_of (plainFor_of_name (by decide +kernel)) rfl (Nat.le_of_ble_eq_true rfl) (fun z1 z2 z3 z4 z5 z6 z7 z8 z9 z10 z11 z12 z13 z14 O hin => ?_)
  refine zi_ls (ls' := [some (.ref 0), some (.int (nI (el e))), some (.int (-1)), some (.int (bI false)), none, none, none, none]) rfl ?_
  refine zi_iload_n O d_Mod_twist_0 rfl ?_
  refine zi_if_ne O 19 d_Mod_twist_1 (by decide) (fun c1 => ?_) (fun c1 => ?_)
  rotate_left
  · exact absurd (nI_zero (a := el e) (by omega) (by first | exact c1 | exact Classical.not_not.mp c1)) (by omega)
  refine zi_iload_n O d_Mod_twist_19 rfl ?_
  refine zi_if_le O 36 d_Mod_twist_20 (by decide) (fun c20 => ?_) (fun c20 => ?_)
  · exact absurd c20 (nI_nle (by omega) (by omega))
  refine zi_aload_n O d_Mod_twist_23 rfl ?_
  refine zi_iload_n O d_Mod_twist_24 rfl ?_
  refine zi_iconstN O 1 d_Mod_twist_25 (by decide) ?_
  refine zi_selfP O c_Mod_66 k_Mod_placeOf (m_Mod_fr hR hG' hE' he) d_Mod_twist_26 ⟨(Nat.le_of_ble_eq_true rfl), (Nat.le_of_ble_eq_true rfl)⟩ ⟨(Nat.le_of_ble_eq_true rfl), (Nat.le_of_ble_eq_true rfl)⟩ rfl rfl (Nat.le_of_ble_eq_true rfl) rfl rfl rfl (Nat.le_of_ble_eq_true rfl) rfl ?_
  refine zi_if_lt O 36 d_Mod_twist_29 (by decide) (fun c29 => ?_) (fun c29 => ?_)
  · exact absurd c29 (nI_pos (by omega))
  refine zi_iconstN O 1 d_Mod_twist_32 (by decide) ?_
  refine zi_goto O 37 d_Mod_twist_33 (by decide) ?_
  refine zi_istore (ls' := _ :: _ :: _ :: _ :: some _ :: _) O d_Mod_twist_37 rfl (by decide) rfl ?_
  refine zi_iload O d_Mod_twist_39 rfl ?_
  refine zi_if_eq O 63 d_Mod_twist_41 (by decide) (fun c41 => ?_) (fun c41 => ?_)
  · exact absurd c41 (by decide)
  refine zi_iload_n O d_Mod_twist_44 rfl ?_
  refine zi_iconstN O 1 d_Mod_twist_45 (by decide) ?_
  refine zi_icmp_eq O 54 d_Mod_twist_46 (by decide) (fun c46 => ?_) (fun c46 => ?_)
  · exact absurd c46 (by decide)
  refine zi_iload_n O d_Mod_twist_49 rfl ?_
  refine zi_iconst (v := -1) O d_Mod_twist_50 (by decide) ?_
  refine zi_icmp_ne O 63 d_Mod_twist_51 (by decide) (fun c51 => ?_) (fun c51 => ?_)
  · exact absurd rfl c51
  refine zi_aload_n O d_Mod_twist_54 rfl ?_
  refine zi_get O f_Mod_59 d_Mod_twist_55 rfl rfl ?_
  refine zi_bipushN O 20 d_Mod_twist_58 (by decide) ?_
  refine zi_icmp_neN O 65 d_Mod_twist_60 (by decide) (by omega) (by omega) (fun c60 => ?_) (fun c60 => ?_)
  rotate_left
  · omega
  refine zi_aload_n O d_Mod_twist_65 rfl ?_
  refine zi_selfV O c_Mod_136 k_Mod_findFree (m_Mod_findFree hR hE') d_Mod_twist_66 ⟨(Nat.le_of_ble_eq_true rfl), (Nat.le_of_ble_eq_true rfl)⟩ ⟨(Nat.le_of_ble_eq_true rfl), (Nat.le_of_ble_eq_true rfl)⟩ rfl rfl (Nat.le_of_ble_eq_true rfl) rfl rfl rfl (Nat.le_of_ble_eq_true rfl) rfl (fun r h' hq hl => ?_)
  obtain ⟨rfl, row', free', rfl, -, hf⟩ := hq
  refine zi_st (st' := []) rfl ?_
  have e0 : free' 0 = nI (fN el 0 (2 * n)) := hf 0 (by decide)
  have e1 : free' 1 = nI (fN el (fN el 0 (2 * n)) (2 * n)) := hf 1 (by decide)
  refine zi_aload_n O d_Mod_twist_69 rfl ?_
  refine zi_get O f_Mod_50 d_Mod_twist_70 rfl rfl ?_
  refine zi_iconstN O 0 d_Mod_twist_73 (by decide) ?_
  refine zi_iald O d_Mod_twist_74 rfl rfl (by omega) (Nat.le_of_ble_eq_true rfl) ?_
  rw [e0]
  refine zi_istore (ls' := _ :: _ :: _ :: _ :: _ :: some _ :: _) O d_Mod_twist_75 rfl (by decide) rfl ?_
  refine zi_aload_n O d_Mod_twist_77 rfl ?_
  refine zi_get O f_Mod_50 d_Mod_twist_78 rfl rfl ?_
  refine zi_iconstN O 1 d_Mod_twist_81 (by decide) ?_
  refine zi_iald O d_Mod_twist_82 rfl rfl (by omega) (Nat.le_of_ble_eq_true rfl) ?_
  rw [e1]
  refine zi_istore (ls' := _ :: _ :: _ :: _ :: _ :: _ :: some _ :: _) O d_Mod_twist_83 rfl (by decide) rfl ?_
  refine zi_iload_n O d_Mod_twist_85 rfl ?_
  refine zi_if_ne O 94 d_Mod_twist_86 (by decide) (fun c86 => ?_) (fun c86 => ?_)
  rotate_left
  · exact absurd (nI_zero (a := el e) (by omega) (by first | exact c86 | exact Classical.not_not.mp c86)) (by omega)
  refine zi_iload_n O d_Mod_twist_94 rfl ?_
  refine zi_istore (ls' := _ :: _ :: _ :: _ :: _ :: _ :: _ :: some _ :: _) O d_Mod_twist_95 rfl (by decide) rfl ?_
  refine zi_iload_n O d_Mod_twist_97 rfl ?_
  refine zi_if_ne O 114 d_Mod_twist_98 (by decide) (fun c98 => ?_) (fun c98 => ?_)
  rotate_left
  · exact absurd (nI_zero (a := el e) (by omega) (by first | exact c98 | exact Classical.not_not.mp c98)) (by omega)
  refine zi_aload_n O d_Mod_twist_114 rfl ?_
  refine zi_get O f_Mod_23 d_Mod_twist_115 rfl rfl ?_
  refine zi_aload_n O d_Mod_twist_118 rfl ?_
  refine zi_iload_n O d_Mod_twist_119 rfl ?_
  refine zi_iconstN O 0 d_Mod_twist_120 (by decide) ?_
  refine zi_selfP O c_Mod_66 k_Mod_placeOf (m_Mod_to hR hG' hE' he) d_Mod_twist_121 ⟨(Nat.le_of_ble_eq_true rfl), (Nat.le_of_ble_eq_true rfl)⟩ ⟨(Nat.le_of_ble_eq_true rfl), (Nat.le_of_ble_eq_true rfl)⟩ rfl rfl (Nat.le_of_ble_eq_true rfl) rfl rfl rfl (Nat.le_of_ble_eq_true rfl) rfl ?_
  refine zi_iload O d_Mod_twist_124 rfl ?_
  refine zi_iast O d_Mod_twist_126 rfl rfl (by omega) (Nat.le_of_ble_eq_true rfl) (by dsimp only [List.set]) ?_
  refine zi_iload_n O d_Mod_twist_127 rfl ?_
  refine zi_if_eq O 151 d_Mod_twist_128 (by decide) (fun c128 => ?_) (fun c128 => ?_)
  rotate_left
  · exact absurd rfl c128
  refine zi_iload_n O d_Mod_twist_151 rfl ?_
  refine zi_if_eq O 171 d_Mod_twist_152 (by decide) (fun c152 => ?_) (fun c152 => ?_)
  rotate_left
  · exact absurd rfl c152
  refine zi_iload_n O d_Mod_twist_171 rfl ?_
  refine zi_if_le O 191 d_Mod_twist_172 (by decide) (fun c172 => ?_) (fun c172 => ?_)
  rotate_left
  · exact absurd (by decide) c172
  refine zi_aload_n O d_Mod_twist_191 rfl ?_
  refine zi_iconst (v := -1) O d_Mod_twist_192 (by decide) ?_
  refine zi_iload O d_Mod_twist_193 rfl ?_
  refine zi_iload O d_Mod_twist_195 rfl ?_
  refine zi_iload O d_Mod_twist_197 rfl ?_
  refine zi_iload O d_Mod_twist_199 rfl ?_
  refine zi_selfV O c_Mod_186 k_Mod_add (m_Mod_add (by omega) (-1) (nI (el e)) (nI (fN el 0 (2 * n))) (nI (fN el 0 (2 * n))) (nI (fN el (fN el 0 (2 * n)) (2 * n)))) d_Mod_twist_201 ⟨(Nat.le_of_ble_eq_true rfl), (Nat.le_of_ble_eq_true rfl)⟩ ⟨(Nat.le_of_ble_eq_true rfl), (Nat.le_of_ble_eq_true rfl)⟩ rfl rfl (Nat.le_of_ble_eq_true rfl) rfl rfl rfl (Nat.le_of_ble_eq_true rfl) rfl (fun r h' hq hl => ?_)
  obtain ⟨rfl, rfl⟩ := hq
  refine zi_st (st' := []) rfl ?_
  refine zi_iconstN O 1 d_Mod_twist_204 (by decide) ?_
  refine zi_zret O d_Mod_twist_205 rfl (Nat.le_of_ble_eq_true rfl) (Nat.le_of_ble_eq_true rfl) (Nat.le_of_ble_eq_true rfl) ?_
  refine ⟨rfl, _, _, _, _, _, _, _, _, _, _, _, _, _, _, _, _, _, _, _, _, _, rfl, ?_, sg_upd hS _, sg_add hG (by decide), hPR, hPS, hPG⟩
  exact rowOK_ad (rowOK_up hR (to_ e) (fN el (fN el 0 (2 * n)) (2 * n)) (by omega)) hn20 (by omega) (by omega) (by omega) (by omega)
theorem m_Mod_twist_c (hM : Mdl k plab T n lab S0 ci h) (hE : Ed n lab S0 el fr to_ at_) (ab : Bool) (sg : Int32) (hs : sg = nI 1 ∨ sg = -1) (hn20 : n < 20) (hc : 0 < ci) : zMet y_Mod_twist b_Mod_twist 8 (some .boolean) ⟨7, 0, 0, 200⟩ [.ref 0, .int 0, .int sg, .int (bI ab)] h (fun r h' => r = some (.int (nI 1)) ∧ Mdl k plab T (n + 1) (cr lab n sg ab (!ab) (fN el (fN el 0 (2 * n)) (2 * n)) (fN el 0 (2 * n)) (fN el (fN el 0 (2 * n)) (2 * n)) (fN el (fN el 0 (2 * n)) (2 * n)) (fN el 0 (2 * n)) (fN el (fN el 0 (2 * n)) (2 * n))) (upd S0 n sg) (ci - nI 1) h') := by
  rcases hs with rfl | rfl <;> cases ab
  · exact m_Mod_twist_c_fp hM hE hn20 hc
  · exact m_Mod_twist_c_tp hM hE hn20 hc
  · exact m_Mod_twist_c_fm hM hE hn20 hc
  · exact m_Mod_twist_c_tm hM hE hn20 hc
theorem m_Mod_twist_e (hM : Mdl k plab T n lab S0 ci h) (hE : Ed n lab S0 el fr to_ at_) (ab : Bool) (sg : Int32) (hs : sg = nI 1 ∨ sg = -1) (hn20 : n < 20) (e : Nat) (he : e < 2 * n) : zMet y_Mod_twist b_Mod_twist 8 (some .boolean) ⟨7, 0, 0, 200⟩ [.ref 0, .int (nI (el e)), .int sg, .int (bI ab)] h (fun r h' => r = some (.int (nI 1)) ∧ Mdl k plab T (n + 1) (cr (va_up lab (to_ e) (fN el (fN el 0 (2 * n)) (2 * n))) n sg ab (!ab) (el e) (fN el 0 (2 * n)) (fN el (fN el 0 (2 * n)) (2 * n)) (el e) (fN el 0 (2 * n)) (fN el (fN el 0 (2 * n)) (2 * n))) (upd S0 n sg) ci h') := by
  rcases hs with rfl | rfl <;> cases ab
  · exact m_Mod_twist_e_fp hM hE hn20 e he
  · exact m_Mod_twist_e_tp hM hE hn20 e he
  · exact m_Mod_twist_e_fm hM hE hn20 e he
  · exact m_Mod_twist_e_tm hM hE hn20 e he
end
