/-! DiagramMoves: many, look, face, pattern -/
def mny (n : Nat) (S : Nat → Int32) (ci : Int32) (F co pc k fl : Nat) (x : Int32) : Int32 := if x = nI 0 then nI n else if x = nI 1 then ci else if x = nI 2 then sumS S n else if x = nI 3 then nI F else if x = nI 4 then nI co + ci else if x = nI 5 then nI pc + ci else if x = nI 6 then nI k else if x = nI 7 then nI fl else -1000
theorem out8 {x : Int32} (h : ∀ j, j < 8 → ¬ x = nI j) : x.toInt < 0 ∨ 7 < x.toInt := by
  by_cases c : x < 0
  · exact Or.inl (Int32.lt_iff_toInt_lt.mp c)
  · obtain ⟨j, hj, rfl⟩ := nI_of c
    right
    rw [nI_toInt hj]
    have : ¬ j < 8 := fun z => h j z rfl
    omega
section
variable {n k : Nat} {lab plab : Nat → Nat} {S T : Nat → Int32} {ci cj : Int32} {el fr to_ at_ oc : Nat → Nat} {h : List zE}
set_option maxHeartbeats 1000000 in
theorem m_Mov_many_1 {hA hB : List zE} (hP0 : Dia n lab S ci el fr to_ at_ oc hA) (hR0 : Dr k plab T cj hB) (x : Int32) : zPu y_Mov_many b_Mov_many 2 (some .int) ⟨1, 0, 0, 24⟩ [.ref 0, .int x] (movH 1 19 hA hB) (.int (mny n S ci (FF (nxD fr to_ at_) (4 * n) (4 * n)).2 (FF (nxE to_ at_) (2 * n) (2 * n)).2 (rc oc n) k (fN el 0 (2 * n)) x)) := by
  have hPk := hP0
  have hRk := hR0
  obtain ⟨L, PL, LB, FR, TO, AT, OF, RD, ST, OC, CE, SL, rfl, hR, hG, hz, hE, hA, hRd, hO, hP, hOF⟩ := hP0
  have hn := hR.1
  have hFF := ff_le (by omega) (perm_D hE) (Nat.le_refl (4 * n))
  obtain ⟨L', m', PL', LB', FR', TO', AT', F', OF', RD', ST', pc', co', OC', CE', SL', rfl, hR', hG', hz'⟩ := hR0
  have e1 := fa_el hR hE hA (a := 0) (by omega)
  refine zMet_of (plainFor_of_name (by decide +kernel)) rfl (Nat.le_of_ble_eq_true rfl) (fun z1 z2 z3 z4 z5 z6 z7 z8 z9 z10 z11 z12 z13 z14 O hin => ?_)
  refine zi_ls (ls' := [some (.ref 0), some (.int x)]) rfl ?_
  refine zi_iload_n O d_Mov_many_0 rfl ?_
  by_cases c0 : x = nI 0
  · subst c0
    refine zi_tableIn O 48 d_Mov_many_1 (by decide) (by decide) rfl (by decide) ?_
    refine zi_aload_n O d_Mov_many_48 rfl ?_
    refine zi_get O f_Mov_12 d_Mov_many_49 rfl rfl ?_
    refine zi_get O f_Mov_26 d_Mov_many_52 rfl rfl ?_
    refine zi_get O f_Mov_40 d_Mov_many_55 rfl rfl ?_
    refine zi_iret O d_Mov_many_58 (Nat.le_of_ble_eq_true rfl) (Nat.le_of_ble_eq_true rfl) (Nat.le_of_ble_eq_true rfl) ?_
    exact ⟨rfl, rfl⟩
  by_cases c1 : x = nI 1
  · subst c1
    refine zi_tableIn O 59 d_Mov_many_1 (by decide) (by decide) rfl (by decide) ?_
    refine zi_aload_n O d_Mov_many_59 rfl ?_
    refine zi_get O f_Mov_12 d_Mov_many_60 rfl rfl ?_
    refine zi_get O f_Mov_48 d_Mov_many_63 rfl rfl ?_
    refine zi_iret O d_Mov_many_66 (Nat.le_of_ble_eq_true rfl) (Nat.le_of_ble_eq_true rfl) (Nat.le_of_ble_eq_true rfl) ?_
    exact ⟨rfl, rfl⟩
  by_cases c2 : x = nI 2
  · subst c2
    refine zi_tableIn O 67 d_Mov_many_1 (by decide) (by decide) rfl (by decide) ?_
    refine zi_aload_n O d_Mov_many_67 rfl ?_
    refine zi_get O f_Mov_12 d_Mov_many_68 rfl rfl ?_
    refine zi_get O f_Mov_26 d_Mov_many_71 rfl rfl ?_
    refine zi_pureV O [2, 3, 4] c_Mov_51 k_Row_sumOfSigns (m_Row_sumOfSigns n L S hn) d_Mov_many_74 ⟨(Nat.le_of_ble_eq_true rfl), (Nat.le_of_ble_eq_true rfl)⟩ ⟨(Nat.le_of_ble_eq_true rfl), (Nat.le_of_ble_eq_true rfl)⟩ rfl rfl (Nat.le_of_ble_eq_true rfl) rfl rfl rfl rfl rfl (Nat.le_of_ble_eq_true rfl) rfl ?_
    refine zi_iret O d_Mov_many_77 (Nat.le_of_ble_eq_true rfl) (Nat.le_of_ble_eq_true rfl) (Nat.le_of_ble_eq_true rfl) ?_
    exact ⟨rfl, rfl⟩
  by_cases c3 : x = nI 3
  · subst c3
    refine zi_tableIn O 78 d_Mov_many_1 (by decide) (by decide) rfl (by decide) ?_
    refine zi_aload_n O d_Mov_many_78 rfl ?_
    refine zi_get O f_Mov_12 d_Mov_many_79 rfl rfl ?_
    refine zi_get O f_Mov_54 d_Mov_many_82 rfl rfl ?_
    refine zi_get O f_Mov_58 d_Mov_many_85 rfl rfl ?_
    refine zi_iret O d_Mov_many_88 (Nat.le_of_ble_eq_true rfl) (Nat.le_of_ble_eq_true rfl) (Nat.le_of_ble_eq_true rfl) ?_
    exact ⟨rfl, rfl⟩
  by_cases c4 : x = nI 4
  · subst c4
    refine zi_tableIn O 89 d_Mov_many_1 (by decide) (by decide) rfl (by decide) ?_
    refine zi_aload_n O d_Mov_many_89 rfl ?_
    refine zi_get O f_Mov_12 d_Mov_many_90 rfl rfl ?_
    refine zi_get O f_Mov_61 d_Mov_many_93 rfl rfl ?_
    refine zi_get O f_Mov_65 d_Mov_many_96 rfl rfl ?_
    refine zi_aload_n O d_Mov_many_99 rfl ?_
    refine zi_get O f_Mov_12 d_Mov_many_100 rfl rfl ?_
    refine zi_get O f_Mov_48 d_Mov_many_103 rfl rfl ?_
    first | refine zi_iaddN O d_Mov_many_106 ?_ | refine zi_iadd O d_Mov_many_106 ?_
    refine zi_iret O d_Mov_many_107 (Nat.le_of_ble_eq_true rfl) (Nat.le_of_ble_eq_true rfl) (Nat.le_of_ble_eq_true rfl) ?_
    exact ⟨rfl, rfl⟩
  by_cases c5 : x = nI 5
  · subst c5
    refine zi_tableIn O 108 d_Mov_many_1 (by decide) (by decide) rfl (by decide) ?_
    refine zi_aload_n O d_Mov_many_108 rfl ?_
    refine zi_get O f_Mov_12 d_Mov_many_109 rfl rfl ?_
    refine zi_get O f_Mov_61 d_Mov_many_112 rfl rfl ?_
    refine zi_get O f_Mov_70 d_Mov_many_115 rfl rfl ?_
    refine zi_aload_n O d_Mov_many_118 rfl ?_
    refine zi_get O f_Mov_12 d_Mov_many_119 rfl rfl ?_
    refine zi_get O f_Mov_48 d_Mov_many_122 rfl rfl ?_
    first | refine zi_iaddN O d_Mov_many_125 ?_ | refine zi_iadd O d_Mov_many_125 ?_
    refine zi_iret O d_Mov_many_126 (Nat.le_of_ble_eq_true rfl) (Nat.le_of_ble_eq_true rfl) (Nat.le_of_ble_eq_true rfl) ?_
    exact ⟨rfl, rfl⟩
  by_cases c6 : x = nI 6
  · subst c6
    refine zi_tableIn O 127 d_Mov_many_1 (by decide) (by decide) rfl (by decide) ?_
    refine zi_aload_n O d_Mov_many_127 rfl ?_
    refine zi_get O f_Mov_16 d_Mov_many_128 rfl rfl ?_
    refine zi_get O f_Mov_26 d_Mov_many_131 rfl rfl ?_
    refine zi_get O f_Mov_40 d_Mov_many_134 rfl rfl ?_
    refine zi_iret O d_Mov_many_137 (Nat.le_of_ble_eq_true rfl) (Nat.le_of_ble_eq_true rfl) (Nat.le_of_ble_eq_true rfl) ?_
    exact ⟨rfl, rfl⟩
  by_cases c7 : x = nI 7
  · subst c7
    refine zi_tableIn O 138 d_Mov_many_1 (by decide) (by decide) rfl (by decide) ?_
    refine zi_aload_n O d_Mov_many_138 rfl ?_
    refine zi_get O f_Mov_12 d_Mov_many_139 rfl rfl ?_
    refine zi_get O f_Mov_71 d_Mov_many_142 rfl rfl ?_
    refine zi_iconstN O 0 d_Mov_many_145 (by decide) ?_
    refine zi_pureV O [5, 6, 7, 8, 9, 10] c_Mov_75 k_Edg_freeAfter (m_Edg_freeAfter (2 * n) PL LB FR TO AT 0 (by omega)) d_Mov_many_146 ⟨(Nat.le_of_ble_eq_true rfl), (Nat.le_of_ble_eq_true rfl)⟩ ⟨(Nat.le_of_ble_eq_true rfl), (Nat.le_of_ble_eq_true rfl)⟩ rfl rfl (Nat.le_of_ble_eq_true rfl) rfl rfl rfl rfl rfl (Nat.le_of_ble_eq_true rfl) rfl ?_
    rw [e1]
    refine zi_iret O d_Mov_many_149 (Nat.le_of_ble_eq_true rfl) (Nat.le_of_ble_eq_true rfl) (Nat.le_of_ble_eq_true rfl) ?_
    exact ⟨rfl, rfl⟩
  refine zi_tableOut O 150 d_Mov_many_1 (out8 (fun j hj z => ?_)) (by decide) ?_
  · rcases (by omega : j = 0 ∨ j = 1 ∨ j = 2 ∨ j = 3 ∨ j = 4 ∨ j = 5 ∨ j = 6 ∨ j = 7) with rfl | rfl | rfl | rfl | rfl | rfl | rfl | rfl
    · exact c0 z
    · exact c1 z
    · exact c2 z
    · exact c3 z
    · exact c4 z
    · exact c5 z
    · exact c6 z
    · exact c7 z
  · refine zi_sipush (v := -1000) O d_Mov_many_150 (by decide) ?_
    refine zi_iret O d_Mov_many_153 (Nat.le_of_ble_eq_true rfl) (Nat.le_of_ble_eq_true rfl) (Nat.le_of_ble_eq_true rfl) ?_
    exact ⟨by rw [mny, if_neg c0, if_neg c1, if_neg c2, if_neg c3, if_neg c4, if_neg c5, if_neg c6, if_neg c7], rfl⟩
theorem m_Mov_look_1 {hA hB : List zE} (hP0 : Dia n lab S ci el fr to_ at_ oc hA) (hR0 : Dr k plab T cj hB) (j w : Nat) (hj : j < n) (hw : w ≤ 4) : zPu y_Mov_look b_Mov_look 3 (some .int) ⟨0, 0, 0, 0⟩ [.ref 0, .int (nI j), .int (nI w)] (movH 1 19 hA hB) (.int (if w = 4 then S j else nI (lab (4 * j + w)))) := by
  have hPk := hP0
  have hRk := hR0
  obtain ⟨L, PL, LB, FR, TO, AT, OF, RD, ST, OC, CE, SL, rfl, hR, hG, hz, hE, hA, hRd, hO, hP, hOF⟩ := hP0
  have hn := hR.1
  have hFF := ff_le (by omega) (perm_D hE) (Nat.le_refl (4 * n))
  obtain ⟨L', m', PL', LB', FR', TO', AT', F', OF', RD', ST', pc', co', OC', CE', SL', rfl, hR', hG', hz'⟩ := hR0
  refine zMet_of (plainFor_of_name (by decide +kernel)) rfl (Nat.le_of_ble_eq_true rfl) (fun z1 z2 z3 z4 z5 z6 z7 z8 z9 z10 z11 z12 z13 z14 O hin => ?_)
  refine zi_ls (ls' := [some (.ref 0), some (.int (nI j)), some (.int (nI w))]) rfl ?_
  refine zi_iload_n O d_Mov_look_0 rfl ?_
  refine zi_if_lt O 27 d_Mov_look_1 (by decide) (fun c1 => ?_) (fun c1 => ?_)
  · exact absurd c1 (nI_pos (by omega))
  · refine zi_iload_n O d_Mov_look_4 rfl ?_
    refine zi_aload_n O d_Mov_look_5 rfl ?_
    refine zi_get O f_Mov_12 d_Mov_look_6 rfl rfl ?_
    refine zi_get O f_Mov_26 d_Mov_look_9 rfl rfl ?_
    refine zi_get O f_Mov_40 d_Mov_look_12 rfl rfl ?_
    refine zi_icmp_geN O 27 d_Mov_look_15 (by decide) (by omega) (by omega) (fun c15 => ?_) (fun c15 => ?_)
    · omega
    · refine zi_iload_n O d_Mov_look_18 rfl ?_
      refine zi_if_lt O 27 d_Mov_look_19 (by decide) (fun c19 => ?_) (fun c19 => ?_)
      · exact absurd c19 (nI_pos (by omega))
      · refine zi_iload_n O d_Mov_look_22 rfl ?_
        refine zi_iconstN O 4 d_Mov_look_23 (by decide) ?_
        refine zi_icmp_leN O 29 d_Mov_look_24 (by decide) (by omega) (by omega) (fun c24 => ?_) (fun c24 => ?_)
        · refine zi_iload_n O d_Mov_look_29 rfl ?_
          refine zi_iconstN O 4 d_Mov_look_30 (by decide) ?_
          refine zi_icmp_neN O 49 d_Mov_look_31 (by decide) (by omega) (by omega) (fun c31 => ?_) (fun c31 => ?_)
          · refine zi_aload_n O d_Mov_look_49 rfl ?_
            refine zi_get O f_Mov_12 d_Mov_look_50 rfl rfl ?_
            refine zi_get O f_Mov_26 d_Mov_look_53 rfl rfl ?_
            refine zi_get O f_Mov_85 d_Mov_look_56 rfl rfl ?_
            refine zi_iconstN O 4 d_Mov_look_59 (by decide) ?_
            refine zi_iload_n O d_Mov_look_60 rfl ?_
            first | refine zi_imulN O d_Mov_look_61 ?_ | refine zi_imul O d_Mov_look_61 ?_
            refine zi_iload_n O d_Mov_look_62 rfl ?_
            first | refine zi_iaddN O d_Mov_look_63 ?_ | refine zi_iadd O d_Mov_look_63 ?_
            refine zi_iald O d_Mov_look_64 rfl rfl (by omega) (Nat.le_of_ble_eq_true rfl) ?_
            rw [(hR.2 _ (by omega)).1]
            refine zi_iret O d_Mov_look_65 (Nat.le_of_ble_eq_true rfl) (Nat.le_of_ble_eq_true rfl) (Nat.le_of_ble_eq_true rfl) ?_
            exact ⟨by rw [if_neg c31], rfl⟩
          · refine zi_aload_n O d_Mov_look_34 rfl ?_
            refine zi_get O f_Mov_12 d_Mov_look_35 rfl rfl ?_
            refine zi_get O f_Mov_26 d_Mov_look_38 rfl rfl ?_
            refine zi_get O f_Mov_81 d_Mov_look_41 rfl rfl ?_
            refine zi_iload_n O d_Mov_look_44 rfl ?_
            refine zi_iald O d_Mov_look_45 rfl rfl (by omega) (Nat.le_of_ble_eq_true rfl) ?_
            refine zi_goto O 65 d_Mov_look_46 (by decide) ?_
            refine zi_iret O d_Mov_look_65 (Nat.le_of_ble_eq_true rfl) (Nat.le_of_ble_eq_true rfl) (Nat.le_of_ble_eq_true rfl) ?_
            exact ⟨by rw [if_pos c31], rfl⟩
        · omega
theorem m_Mov_look_no_1 {hA hB : List zE} (hP0 : Dia n lab S ci el fr to_ at_ oc hA) (hR0 : Dr k plab T cj hB) (x w : Int32) (hx : x < 0 ∨ nI n ≤ x ∨ w < 0 ∨ nI 4 < w) : zPu y_Mov_look b_Mov_look 3 (some .int) ⟨0, 0, 0, 0⟩ [.ref 0, .int x, .int w] (movH 1 19 hA hB) (.int (nI 0)) := by
  have hPk := hP0
  have hRk := hR0
  obtain ⟨L, PL, LB, FR, TO, AT, OF, RD, ST, OC, CE, SL, rfl, hR, hG, hz, hE, hA, hRd, hO, hP, hOF⟩ := hP0
  have hn := hR.1
  have hFF := ff_le (by omega) (perm_D hE) (Nat.le_refl (4 * n))
  obtain ⟨L', m', PL', LB', FR', TO', AT', F', OF', RD', ST', pc', co', OC', CE', SL', rfl, hR', hG', hz'⟩ := hR0
  refine zMet_of (plainFor_of_name (by decide +kernel)) rfl (Nat.le_of_ble_eq_true rfl) (fun z1 z2 z3 z4 z5 z6 z7 z8 z9 z10 z11 z12 z13 z14 O hin => ?_)
  refine zi_ls (ls' := [some (.ref 0), some (.int x), some (.int w)]) rfl ?_
  refine zi_iload_n O d_Mov_look_0 rfl ?_
  refine zi_if_lt O 27 d_Mov_look_1 (by decide) (fun c1 => ?_) (fun c1 => ?_)
  · refine zi_iconstN O 0 d_Mov_look_27 (by decide) ?_
    refine zi_iret O d_Mov_look_28 (Nat.le_of_ble_eq_true rfl) (Nat.le_of_ble_eq_true rfl) (Nat.le_of_ble_eq_true rfl) ?_
    exact ⟨rfl, rfl⟩
  · refine zi_iload_n O d_Mov_look_4 rfl ?_
    refine zi_aload_n O d_Mov_look_5 rfl ?_
    refine zi_get O f_Mov_12 d_Mov_look_6 rfl rfl ?_
    refine zi_get O f_Mov_26 d_Mov_look_9 rfl rfl ?_
    refine zi_get O f_Mov_40 d_Mov_look_12 rfl rfl ?_
    refine zi_icmp_ge O 27 d_Mov_look_15 (by decide) (fun c15 => ?_) (fun c15 => ?_)
    · refine zi_iconstN O 0 d_Mov_look_27 (by decide) ?_
      refine zi_iret O d_Mov_look_28 (Nat.le_of_ble_eq_true rfl) (Nat.le_of_ble_eq_true rfl) (Nat.le_of_ble_eq_true rfl) ?_
      exact ⟨rfl, rfl⟩
    · refine zi_iload_n O d_Mov_look_18 rfl ?_
      refine zi_if_lt O 27 d_Mov_look_19 (by decide) (fun c19 => ?_) (fun c19 => ?_)
      · refine zi_iconstN O 0 d_Mov_look_27 (by decide) ?_
        refine zi_iret O d_Mov_look_28 (Nat.le_of_ble_eq_true rfl) (Nat.le_of_ble_eq_true rfl) (Nat.le_of_ble_eq_true rfl) ?_
        exact ⟨rfl, rfl⟩
      · refine zi_iload_n O d_Mov_look_22 rfl ?_
        refine zi_iconstN O 4 d_Mov_look_23 (by decide) ?_
        refine zi_icmp_le O 29 d_Mov_look_24 (by decide) (fun c24 => ?_) (fun c24 => ?_)
        · exact absurd hx (fun z => z.elim c1 (fun z => z.elim c15 (fun z => z.elim c19 (Int32.not_lt.mpr c24))))
        · refine zi_iconstN O 0 d_Mov_look_27 (by decide) ?_
          refine zi_iret O d_Mov_look_28 (Nat.le_of_ble_eq_true rfl) (Nat.le_of_ble_eq_true rfl) (Nat.le_of_ble_eq_true rfl) ?_
          exact ⟨rfl, rfl⟩
theorem m_Mov_face_no_1 {hA hB : List zE} (hP0 : Dia n lab S ci el fr to_ at_ oc hA) (hR0 : Dr k plab T cj hB) (x y : Int32) (hx : ¬ (0 ≤ x ∧ x < nI (FF (nxD fr to_ at_) (4 * n) (4 * n)).2)) : zPu y_Mov_face b_Mov_face 4 (some .int) ⟨1, 0, 0, 24⟩ [.ref 0, .int x, .int y] (movH 1 19 hA hB) (.int (nI 0)) := by
  have hPk := hP0
  have hRk := hR0
  obtain ⟨L, PL, LB, FR, TO, AT, OF, RD, ST, OC, CE, SL, rfl, hR, hG, hz, hE, hA, hRd, hO, hP, hOF⟩ := hP0
  have hn := hR.1
  have hFF := ff_le (by omega) (perm_D hE) (Nat.le_refl (4 * n))
  obtain ⟨L', m', PL', LB', FR', TO', AT', F', OF', RD', ST', pc', co', OC', CE', SL', rfl, hR', hG', hz'⟩ := hR0
  refine zMet_of (plainFor_of_name (by decide +kernel)) rfl (Nat.le_of_ble_eq_true rfl) (fun z1 z2 z3 z4 z5 z6 z7 z8 z9 z10 z11 z12 z13 z14 O hin => ?_)
  refine zi_ls (ls' := [some (.ref 0), some (.int x), some (.int y), none]) rfl ?_
  refine zi_aload_n O d_Mov_face_0 rfl ?_
  refine zi_get O f_Mov_12 d_Mov_face_1 rfl rfl ?_
  refine zi_get O f_Mov_54 d_Mov_face_4 rfl rfl ?_
  refine zi_iload_n O d_Mov_face_7 rfl ?_
  refine zi_pureV O [11, 12, 13, 14] c_Mov_88 k_Fac_has (m_Fac_has (FF (nxD fr to_ at_) (4 * n) (4 * n)).2 OF RD ST x) d_Mov_face_8 ⟨(Nat.le_of_ble_eq_true rfl), (Nat.le_of_ble_eq_true rfl)⟩ ⟨(Nat.le_of_ble_eq_true rfl), (Nat.le_of_ble_eq_true rfl)⟩ rfl rfl (Nat.le_of_ble_eq_true rfl) rfl rfl rfl rfl rfl (Nat.le_of_ble_eq_true rfl) rfl ?_
  rw [zb_f hx]
  refine zi_if_ne O 16 d_Mov_face_11 (by decide) (fun c11 => ?_) (fun c11 => ?_)
  · exact absurd rfl c11
  · refine zi_iconstN O 0 d_Mov_face_14 (by decide) ?_
    refine zi_iret O d_Mov_face_15 (Nat.le_of_ble_eq_true rfl) (Nat.le_of_ble_eq_true rfl) (Nat.le_of_ble_eq_true rfl) ?_
    exact ⟨rfl, rfl⟩
set_option maxHeartbeats 1000000 in
theorem m_Mov_face_1 {hA hB : List zE} (hP0 : Dia n lab S ci el fr to_ at_ oc hA) (hR0 : Dr k plab T cj hB) (j l t : Nat) (y : Int32) (hj : j < (FF (nxD fr to_ at_) (4 * n) (4 * n)).2) (hF : FaceK n (nxD fr to_ at_) j l t) : zMet y_Mov_face b_Mov_face 4 (some .int) ⟨1, 0, 0, 24⟩ [.ref 0, .int (nI j), .int y] (movH 1 19 hA hB)
    (fun r h' => h' = movH 1 19 hA hB ∧ ((y = -1 ∧ r = some (.int (nI t))) ∨ (¬ y = -1 ∧ (y < 0 ∨ nI t ≤ y) ∧ r = some (.int (nI 0))) ∨ (∃ i, i < t ∧ y = nI i ∧ r = some (.int (if it (nxD fr to_ at_) i l % 2 = 0 then nI (el (it (nxD fr to_ at_) i l / 2)) else -(nI (el (it (nxD fr to_ at_) i l / 2)))))))) := by
  have hPk := hP0
  have hRk := hR0
  obtain ⟨L, PL, LB, FR, TO, AT, OF, RD, ST, OC, CE, SL, rfl, hR, hG, hz, hE, hA, hRd, hO, hP, hOF⟩ := hP0
  have hn := hR.1
  have hFF := ff_le (by omega) (perm_D hE) (Nat.le_refl (4 * n))
  obtain ⟨L', m', PL', LB', FR', TO', AT', F', OF', RD', ST', pc', co', OC', CE', SL', rfl, hR', hG', hz'⟩ := hR0
  obtain ⟨l', t', a, hF', ha, hs1, hs2, hr⟩ := rd_face hRd hj
  obtain ⟨rfl, rfl⟩ := faceK_uniq hF hF'
  have ht := hF.2.1
  refine zMet_of (plainFor_of_name (by decide +kernel)) rfl (Nat.le_of_ble_eq_true rfl) (fun z1 z2 z3 z4 z5 z6 z7 z8 z9 z10 z11 z12 z13 z14 O hin => ?_)
  refine zi_ls (ls' := [some (.ref 0), some (.int (nI j)), some (.int y), none]) rfl ?_
  refine zi_aload_n O d_Mov_face_0 rfl ?_
  refine zi_get O f_Mov_12 d_Mov_face_1 rfl rfl ?_
  refine zi_get O f_Mov_54 d_Mov_face_4 rfl rfl ?_
  refine zi_iload_n O d_Mov_face_7 rfl ?_
  refine zi_pureV O [11, 12, 13, 14] c_Mov_88 k_Fac_has (m_Fac_has (FF (nxD fr to_ at_) (4 * n) (4 * n)).2 OF RD ST (nI j)) d_Mov_face_8 ⟨(Nat.le_of_ble_eq_true rfl), (Nat.le_of_ble_eq_true rfl)⟩ ⟨(Nat.le_of_ble_eq_true rfl), (Nat.le_of_ble_eq_true rfl)⟩ rfl rfl (Nat.le_of_ble_eq_true rfl) rfl rfl rfl rfl rfl (Nat.le_of_ble_eq_true rfl) rfl ?_
  rw [zb_t ⟨nI_pos' (by omega), nI_lt hj (by omega)⟩]
  refine zi_if_ne O 16 d_Mov_face_11 (by decide) (fun c11 => ?_) (fun c11 => ?_)
  · refine zi_aload_n O d_Mov_face_16 rfl ?_
    refine zi_get O f_Mov_12 d_Mov_face_17 rfl rfl ?_
    refine zi_get O f_Mov_54 d_Mov_face_20 rfl rfl ?_
    refine zi_iload_n O d_Mov_face_23 rfl ?_
    refine zi_pureV O [11, 12, 13, 14] c_Mov_91 k_Fac_size (m_Fac_size (FF (nxD fr to_ at_) (4 * n) (4 * n)).2 OF RD ST j a (a + t') (by omega) hs1 hs2 (by omega)) d_Mov_face_24 ⟨(Nat.le_of_ble_eq_true rfl), (Nat.le_of_ble_eq_true rfl)⟩ ⟨(Nat.le_of_ble_eq_true rfl), (Nat.le_of_ble_eq_true rfl)⟩ rfl rfl (Nat.le_of_ble_eq_true rfl) rfl rfl rfl rfl rfl (Nat.le_of_ble_eq_true rfl) rfl ?_
    rw [show a + t' - a = t' by omega]
    refine zi_istore_n (ls' := _ :: _ :: _ :: some _ :: _) O d_Mov_face_27 rfl (by decide) rfl ?_
    refine zi_iload_n O d_Mov_face_28 rfl ?_
    refine zi_iconst (v := -1) O d_Mov_face_29 (by decide) ?_
    refine zi_icmp_ne O 35 d_Mov_face_30 (by decide) (fun c30 => ?_) (fun c30 => ?_)
    · refine zi_iload_n O d_Mov_face_35 rfl ?_
      refine zi_if_lt O 44 d_Mov_face_36 (by decide) (fun c36 => ?_) (fun c36 => ?_)
      · refine zi_iconstN O 0 d_Mov_face_44 (by decide) ?_
        refine zi_iret O d_Mov_face_45 (Nat.le_of_ble_eq_true rfl) (Nat.le_of_ble_eq_true rfl) (Nat.le_of_ble_eq_true rfl) ?_
        exact ⟨rfl, Or.inr (Or.inl ⟨c30, Or.inl c36, rfl⟩)⟩
      · obtain ⟨i, hi31, rfl⟩ := nI_of c36
        refine zi_iload_n O d_Mov_face_39 rfl ?_
        refine zi_iload_n O d_Mov_face_40 rfl ?_
        refine zi_icmp_ltN O 46 d_Mov_face_41 (by decide) (by omega) (by omega) (fun c41 => ?_) (fun c41 => ?_)
        · refine zi_aload_n O d_Mov_face_46 rfl ?_
          refine zi_get O f_Mov_12 d_Mov_face_47 rfl rfl ?_
          refine zi_get O f_Mov_71 d_Mov_face_50 rfl rfl ?_
          refine zi_aload_n O d_Mov_face_53 rfl ?_
          refine zi_get O f_Mov_12 d_Mov_face_54 rfl rfl ?_
          refine zi_get O f_Mov_54 d_Mov_face_57 rfl rfl ?_
          refine zi_iload_n O d_Mov_face_60 rfl ?_
          refine zi_iload_n O d_Mov_face_61 rfl ?_
          refine zi_pureV O [11, 12, 13, 14] c_Mov_94 k_Fac_dart (m_Fac_dart (FF (nxD fr to_ at_) (4 * n) (4 * n)).2 OF RD ST j i a (it (nxD fr to_ at_) i l') (by omega) hs1 (by omega) (hr i c41)) d_Mov_face_62 ⟨(Nat.le_of_ble_eq_true rfl), (Nat.le_of_ble_eq_true rfl)⟩ ⟨(Nat.le_of_ble_eq_true rfl), (Nat.le_of_ble_eq_true rfl)⟩ rfl rfl (Nat.le_of_ble_eq_true rfl) rfl rfl rfl rfl rfl (Nat.le_of_ble_eq_true rfl) rfl ?_
          have hd := it_lt (perm_D hE) hF.1 i
          refine zi_pureV O [5, 6, 7, 8, 9, 10] c_Mov_98 k_Edg_signedLabel (m_Edg_signedLabel (2 * n) PL LB FR TO AT (it (nxD fr to_ at_) i l') (by omega)) d_Mov_face_65 ⟨(Nat.le_of_ble_eq_true rfl), (Nat.le_of_ble_eq_true rfl)⟩ ⟨(Nat.le_of_ble_eq_true rfl), (Nat.le_of_ble_eq_true rfl)⟩ rfl rfl (Nat.le_of_ble_eq_true rfl) rfl rfl rfl rfl rfl (Nat.le_of_ble_eq_true rfl) rfl ?_
          rw [(hA.1 _ (by omega)).1]
          refine zi_iret O d_Mov_face_68 (Nat.le_of_ble_eq_true rfl) (Nat.le_of_ble_eq_true rfl) (Nat.le_of_ble_eq_true rfl) ?_
          exact ⟨rfl, Or.inr (Or.inr ⟨i, c41, rfl, rfl⟩)⟩
        · refine zi_iconstN O 0 d_Mov_face_44 (by decide) ?_
          refine zi_iret O d_Mov_face_45 (Nat.le_of_ble_eq_true rfl) (Nat.le_of_ble_eq_true rfl) (Nat.le_of_ble_eq_true rfl) ?_
          exact ⟨rfl, Or.inr (Or.inl ⟨c30, Or.inr (nI_le c41 (by omega)), rfl⟩)⟩
    · refine zi_iload_n O d_Mov_face_33 rfl ?_
      refine zi_iret O d_Mov_face_34 (Nat.le_of_ble_eq_true rfl) (Nat.le_of_ble_eq_true rfl) (Nat.le_of_ble_eq_true rfl) ?_
      exact ⟨rfl, Or.inl ⟨c30, rfl⟩⟩
  · exact absurd c11 (by decide)
theorem m_Mov_pattern_no_1 {hA hB : List zE} (hP0 : Dia n lab S ci el fr to_ at_ oc hA) (hR0 : Dr k plab T cj hB) (x : Int32) (hx : ¬ (0 ≤ x ∧ x < nI (FF (nxD fr to_ at_) (4 * n) (4 * n)).2)) : zPu y_Mov_pattern b_Mov_pattern 2 (some .int) ⟨4, 0, 0, 115⟩ [.ref 0, .int x] (movH 1 19 hA hB) (.int (-1)) := by
  have hPk := hP0
  have hRk := hR0
  obtain ⟨L, PL, LB, FR, TO, AT, OF, RD, ST, OC, CE, SL, rfl, hR, hG, hz, hE, hA, hRd, hO, hP, hOF⟩ := hP0
  have hn := hR.1
  have hFF := ff_le (by omega) (perm_D hE) (Nat.le_refl (4 * n))
  obtain ⟨L', m', PL', LB', FR', TO', AT', F', OF', RD', ST', pc', co', OC', CE', SL', rfl, hR', hG', hz'⟩ := hR0
  refine zMet_of (plainFor_of_name (by decide +kernel)) rfl (Nat.le_of_ble_eq_true rfl) (fun z1 z2 z3 z4 z5 z6 z7 z8 z9 z10 z11 z12 z13 z14 O hin => ?_)
  refine zi_ls (ls' := [some (.ref 0), some (.int x)]) rfl ?_
  refine zi_aload_n O d_Mov_pattern_0 rfl ?_
  refine zi_get O f_Mov_12 d_Mov_pattern_1 rfl rfl ?_
  refine zi_get O f_Mov_54 d_Mov_pattern_4 rfl rfl ?_
  refine zi_iload_n O d_Mov_pattern_7 rfl ?_
  refine zi_pureV O [11, 12, 13, 14] c_Mov_88 k_Fac_has (m_Fac_has (FF (nxD fr to_ at_) (4 * n) (4 * n)).2 OF RD ST x) d_Mov_pattern_8 ⟨(Nat.le_of_ble_eq_true rfl), (Nat.le_of_ble_eq_true rfl)⟩ ⟨(Nat.le_of_ble_eq_true rfl), (Nat.le_of_ble_eq_true rfl)⟩ rfl rfl (Nat.le_of_ble_eq_true rfl) rfl rfl rfl rfl rfl (Nat.le_of_ble_eq_true rfl) rfl ?_
  rw [zb_f hx]
  refine zi_if_eq O 25 d_Mov_pattern_11 (by decide) (fun c11 => ?_) (fun c11 => ?_)
  · refine zi_iconst (v := -1) O d_Mov_pattern_25 (by decide) ?_
    refine zi_iret O d_Mov_pattern_26 (Nat.le_of_ble_eq_true rfl) (Nat.le_of_ble_eq_true rfl) (Nat.le_of_ble_eq_true rfl) ?_
    exact ⟨rfl, rfl⟩
  · exact absurd rfl c11
theorem m_Mov_pattern_1 {hA hB : List zE} (hP0 : Dia n lab S ci el fr to_ at_ oc hA) (hR0 : Dr k plab T cj hB) (j l t : Nat) (hj : j < (FF (nxD fr to_ at_) (4 * n) (4 * n)).2) (hF : FaceK n (nxD fr to_ at_) j l t) : zPu y_Mov_pattern b_Mov_pattern 2 (some .int) ⟨4, 0, 0, 115⟩ [.ref 0, .int (nI j)] (movH 1 19 hA hB) (.int (nI (pat fr to_ (nxD fr to_ at_) l t))) := by
  have hPk := hP0
  have hRk := hR0
  obtain ⟨L, PL, LB, FR, TO, AT, OF, RD, ST, OC, CE, SL, rfl, hR, hG, hz, hE, hA, hRd, hO, hP, hOF⟩ := hP0
  have hn := hR.1
  have hFF := ff_le (by omega) (perm_D hE) (Nat.le_refl (4 * n))
  obtain ⟨L', m', PL', LB', FR', TO', AT', F', OF', RD', ST', pc', co', OC', CE', SL', rfl, hR', hG', hz'⟩ := hR0
  refine zMet_of (plainFor_of_name (by decide +kernel)) rfl (Nat.le_of_ble_eq_true rfl) (fun z1 z2 z3 z4 z5 z6 z7 z8 z9 z10 z11 z12 z13 z14 O hin => ?_)
  refine zi_ls (ls' := [some (.ref 0), some (.int (nI j))]) rfl ?_
  refine zi_aload_n O d_Mov_pattern_0 rfl ?_
  refine zi_get O f_Mov_12 d_Mov_pattern_1 rfl rfl ?_
  refine zi_get O f_Mov_54 d_Mov_pattern_4 rfl rfl ?_
  refine zi_iload_n O d_Mov_pattern_7 rfl ?_
  refine zi_pureV O [11, 12, 13, 14] c_Mov_88 k_Fac_has (m_Fac_has (FF (nxD fr to_ at_) (4 * n) (4 * n)).2 OF RD ST (nI j)) d_Mov_pattern_8 ⟨(Nat.le_of_ble_eq_true rfl), (Nat.le_of_ble_eq_true rfl)⟩ ⟨(Nat.le_of_ble_eq_true rfl), (Nat.le_of_ble_eq_true rfl)⟩ rfl rfl (Nat.le_of_ble_eq_true rfl) rfl rfl rfl rfl rfl (Nat.le_of_ble_eq_true rfl) rfl ?_
  rw [zb_t ⟨nI_pos' (by omega), nI_lt hj (by omega)⟩]
  refine zi_if_eq O 25 d_Mov_pattern_11 (by decide) (fun c11 => ?_) (fun c11 => ?_)
  · exact absurd c11 (by decide)
  · refine zi_aload_n O d_Mov_pattern_14 rfl ?_
    refine zi_get O f_Mov_12 d_Mov_pattern_15 rfl rfl ?_
    refine zi_iload_n O d_Mov_pattern_18 rfl ?_
    refine zi_blkP O 1 ([zo 0 [.ref 1, .ref 19]]) (diaH ci n L S (2 * n) PL LB FR TO AT (FF (nxD fr to_ at_) (4 * n) (4 * n)).2 OF RD ST (rc oc n) (FF (nxE to_ at_) (2 * n) (2 * n)).2 OC CE SL) ((diaH cj k L' T m' PL' LB' FR' TO' AT' F' OF' RD' ST' pc' co' OC' CE' SL').map (zc (fun q => q + 19))) rfl rfl c_Mov_101 k_Dia_patternAt (m_Dia_patternAt hPk j l t hj hF) d_Mov_pattern_19 ⟨(Nat.le_of_ble_eq_true rfl), (Nat.le_of_ble_eq_true rfl)⟩ ⟨(Nat.le_of_ble_eq_true rfl), (Nat.le_of_ble_eq_true rfl)⟩ rfl rfl (Nat.le_of_ble_eq_true rfl) rfl rfl rfl (Nat.le_of_ble_eq_true rfl) rfl rfl rfl ?_
    refine zi_goto O 26 d_Mov_pattern_22 (by decide) ?_
    refine zi_iret O d_Mov_pattern_26 (Nat.le_of_ble_eq_true rfl) (Nat.le_of_ble_eq_true rfl) (Nat.le_of_ble_eq_true rfl) ?_
    exact ⟨rfl, rfl⟩
set_option maxHeartbeats 1000000 in
theorem m_Mov_many_2 {hA hB : List zE} (hP0 : Dia n lab S ci el fr to_ at_ oc hA) (hR0 : Dr k plab T cj hB) (x : Int32) : zPu y_Mov_many b_Mov_many 2 (some .int) ⟨1, 0, 0, 24⟩ [.ref 0, .int x] (movH 19 1 hB hA) (.int (mny n S ci (FF (nxD fr to_ at_) (4 * n) (4 * n)).2 (FF (nxE to_ at_) (2 * n) (2 * n)).2 (rc oc n) k (fN el 0 (2 * n)) x)) := by
  have hPk := hP0
  have hRk := hR0
  obtain ⟨L, PL, LB, FR, TO, AT, OF, RD, ST, OC, CE, SL, rfl, hR, hG, hz, hE, hA, hRd, hO, hP, hOF⟩ := hP0
  have hn := hR.1
  have hFF := ff_le (by omega) (perm_D hE) (Nat.le_refl (4 * n))
  obtain ⟨L', m', PL', LB', FR', TO', AT', F', OF', RD', ST', pc', co', OC', CE', SL', rfl, hR', hG', hz'⟩ := hR0
  have e1 := fa_el hR hE hA (a := 0) (by omega)
  refine zMet_of (plainFor_of_name (by decide +kernel)) rfl (Nat.le_of_ble_eq_true rfl) (fun z1 z2 z3 z4 z5 z6 z7 z8 z9 z10 z11 z12 z13 z14 O hin => ?_)
  refine zi_ls (ls' := [some (.ref 0), some (.int x)]) rfl ?_
  refine zi_iload_n O d_Mov_many_0 rfl ?_
  by_cases c0 : x = nI 0
  · subst c0
    refine zi_tableIn O 48 d_Mov_many_1 (by decide) (by decide) rfl (by decide) ?_
    refine zi_aload_n O d_Mov_many_48 rfl ?_
    refine zi_get O f_Mov_12 d_Mov_many_49 rfl rfl ?_
    refine zi_get O f_Mov_26 d_Mov_many_52 rfl rfl ?_
    refine zi_get O f_Mov_40 d_Mov_many_55 rfl rfl ?_
    refine zi_iret O d_Mov_many_58 (Nat.le_of_ble_eq_true rfl) (Nat.le_of_ble_eq_true rfl) (Nat.le_of_ble_eq_true rfl) ?_
    exact ⟨rfl, rfl⟩
  by_cases c1 : x = nI 1
  · subst c1
    refine zi_tableIn O 59 d_Mov_many_1 (by decide) (by decide) rfl (by decide) ?_
    refine zi_aload_n O d_Mov_many_59 rfl ?_
    refine zi_get O f_Mov_12 d_Mov_many_60 rfl rfl ?_
    refine zi_get O f_Mov_48 d_Mov_many_63 rfl rfl ?_
    refine zi_iret O d_Mov_many_66 (Nat.le_of_ble_eq_true rfl) (Nat.le_of_ble_eq_true rfl) (Nat.le_of_ble_eq_true rfl) ?_
    exact ⟨rfl, rfl⟩
  by_cases c2 : x = nI 2
  · subst c2
    refine zi_tableIn O 67 d_Mov_many_1 (by decide) (by decide) rfl (by decide) ?_
    refine zi_aload_n O d_Mov_many_67 rfl ?_
    refine zi_get O f_Mov_12 d_Mov_many_68 rfl rfl ?_
    refine zi_get O f_Mov_26 d_Mov_many_71 rfl rfl ?_
    refine zi_pureV O [20, 21, 22] c_Mov_51 k_Row_sumOfSigns (m_Row_sumOfSigns n L S hn) d_Mov_many_74 ⟨(Nat.le_of_ble_eq_true rfl), (Nat.le_of_ble_eq_true rfl)⟩ ⟨(Nat.le_of_ble_eq_true rfl), (Nat.le_of_ble_eq_true rfl)⟩ rfl rfl (Nat.le_of_ble_eq_true rfl) rfl rfl rfl rfl rfl (Nat.le_of_ble_eq_true rfl) rfl ?_
    refine zi_iret O d_Mov_many_77 (Nat.le_of_ble_eq_true rfl) (Nat.le_of_ble_eq_true rfl) (Nat.le_of_ble_eq_true rfl) ?_
    exact ⟨rfl, rfl⟩
  by_cases c3 : x = nI 3
  · subst c3
    refine zi_tableIn O 78 d_Mov_many_1 (by decide) (by decide) rfl (by decide) ?_
    refine zi_aload_n O d_Mov_many_78 rfl ?_
    refine zi_get O f_Mov_12 d_Mov_many_79 rfl rfl ?_
    refine zi_get O f_Mov_54 d_Mov_many_82 rfl rfl ?_
    refine zi_get O f_Mov_58 d_Mov_many_85 rfl rfl ?_
    refine zi_iret O d_Mov_many_88 (Nat.le_of_ble_eq_true rfl) (Nat.le_of_ble_eq_true rfl) (Nat.le_of_ble_eq_true rfl) ?_
    exact ⟨rfl, rfl⟩
  by_cases c4 : x = nI 4
  · subst c4
    refine zi_tableIn O 89 d_Mov_many_1 (by decide) (by decide) rfl (by decide) ?_
    refine zi_aload_n O d_Mov_many_89 rfl ?_
    refine zi_get O f_Mov_12 d_Mov_many_90 rfl rfl ?_
    refine zi_get O f_Mov_61 d_Mov_many_93 rfl rfl ?_
    refine zi_get O f_Mov_65 d_Mov_many_96 rfl rfl ?_
    refine zi_aload_n O d_Mov_many_99 rfl ?_
    refine zi_get O f_Mov_12 d_Mov_many_100 rfl rfl ?_
    refine zi_get O f_Mov_48 d_Mov_many_103 rfl rfl ?_
    first | refine zi_iaddN O d_Mov_many_106 ?_ | refine zi_iadd O d_Mov_many_106 ?_
    refine zi_iret O d_Mov_many_107 (Nat.le_of_ble_eq_true rfl) (Nat.le_of_ble_eq_true rfl) (Nat.le_of_ble_eq_true rfl) ?_
    exact ⟨rfl, rfl⟩
  by_cases c5 : x = nI 5
  · subst c5
    refine zi_tableIn O 108 d_Mov_many_1 (by decide) (by decide) rfl (by decide) ?_
    refine zi_aload_n O d_Mov_many_108 rfl ?_
    refine zi_get O f_Mov_12 d_Mov_many_109 rfl rfl ?_
    refine zi_get O f_Mov_61 d_Mov_many_112 rfl rfl ?_
    refine zi_get O f_Mov_70 d_Mov_many_115 rfl rfl ?_
    refine zi_aload_n O d_Mov_many_118 rfl ?_
    refine zi_get O f_Mov_12 d_Mov_many_119 rfl rfl ?_
    refine zi_get O f_Mov_48 d_Mov_many_122 rfl rfl ?_
    first | refine zi_iaddN O d_Mov_many_125 ?_ | refine zi_iadd O d_Mov_many_125 ?_
    refine zi_iret O d_Mov_many_126 (Nat.le_of_ble_eq_true rfl) (Nat.le_of_ble_eq_true rfl) (Nat.le_of_ble_eq_true rfl) ?_
    exact ⟨rfl, rfl⟩
  by_cases c6 : x = nI 6
  · subst c6
    refine zi_tableIn O 127 d_Mov_many_1 (by decide) (by decide) rfl (by decide) ?_
    refine zi_aload_n O d_Mov_many_127 rfl ?_
    refine zi_get O f_Mov_16 d_Mov_many_128 rfl rfl ?_
    refine zi_get O f_Mov_26 d_Mov_many_131 rfl rfl ?_
    refine zi_get O f_Mov_40 d_Mov_many_134 rfl rfl ?_
    refine zi_iret O d_Mov_many_137 (Nat.le_of_ble_eq_true rfl) (Nat.le_of_ble_eq_true rfl) (Nat.le_of_ble_eq_true rfl) ?_
    exact ⟨rfl, rfl⟩
  by_cases c7 : x = nI 7
  · subst c7
    refine zi_tableIn O 138 d_Mov_many_1 (by decide) (by decide) rfl (by decide) ?_
    refine zi_aload_n O d_Mov_many_138 rfl ?_
    refine zi_get O f_Mov_12 d_Mov_many_139 rfl rfl ?_
    refine zi_get O f_Mov_71 d_Mov_many_142 rfl rfl ?_
    refine zi_iconstN O 0 d_Mov_many_145 (by decide) ?_
    refine zi_pureV O [23, 24, 25, 26, 27, 28] c_Mov_75 k_Edg_freeAfter (m_Edg_freeAfter (2 * n) PL LB FR TO AT 0 (by omega)) d_Mov_many_146 ⟨(Nat.le_of_ble_eq_true rfl), (Nat.le_of_ble_eq_true rfl)⟩ ⟨(Nat.le_of_ble_eq_true rfl), (Nat.le_of_ble_eq_true rfl)⟩ rfl rfl (Nat.le_of_ble_eq_true rfl) rfl rfl rfl rfl rfl (Nat.le_of_ble_eq_true rfl) rfl ?_
    rw [e1]
    refine zi_iret O d_Mov_many_149 (Nat.le_of_ble_eq_true rfl) (Nat.le_of_ble_eq_true rfl) (Nat.le_of_ble_eq_true rfl) ?_
    exact ⟨rfl, rfl⟩
  refine zi_tableOut O 150 d_Mov_many_1 (out8 (fun j hj z => ?_)) (by decide) ?_
  · rcases (by omega : j = 0 ∨ j = 1 ∨ j = 2 ∨ j = 3 ∨ j = 4 ∨ j = 5 ∨ j = 6 ∨ j = 7) with rfl | rfl | rfl | rfl | rfl | rfl | rfl | rfl
    · exact c0 z
    · exact c1 z
    · exact c2 z
    · exact c3 z
    · exact c4 z
    · exact c5 z
    · exact c6 z
    · exact c7 z
  · refine zi_sipush (v := -1000) O d_Mov_many_150 (by decide) ?_
    refine zi_iret O d_Mov_many_153 (Nat.le_of_ble_eq_true rfl) (Nat.le_of_ble_eq_true rfl) (Nat.le_of_ble_eq_true rfl) ?_
    exact ⟨by rw [mny, if_neg c0, if_neg c1, if_neg c2, if_neg c3, if_neg c4, if_neg c5, if_neg c6, if_neg c7], rfl⟩
theorem m_Mov_look_2 {hA hB : List zE} (hP0 : Dia n lab S ci el fr to_ at_ oc hA) (hR0 : Dr k plab T cj hB) (j w : Nat) (hj : j < n) (hw : w ≤ 4) : zPu y_Mov_look b_Mov_look 3 (some .int) ⟨0, 0, 0, 0⟩ [.ref 0, .int (nI j), .int (nI w)] (movH 19 1 hB hA) (.int (if w = 4 then S j else nI (lab (4 * j + w)))) := by
  have hPk := hP0
  have hRk := hR0
  obtain ⟨L, PL, LB, FR, TO, AT, OF, RD, ST, OC, CE, SL, rfl, hR, hG, hz, hE, hA, hRd, hO, hP, hOF⟩ := hP0
  have hn := hR.1
  have hFF := ff_le (by omega) (perm_D hE) (Nat.le_refl (4 * n))
  obtain ⟨L', m', PL', LB', FR', TO', AT', F', OF', RD', ST', pc', co', OC', CE', SL', rfl, hR', hG', hz'⟩ := hR0
  refine zMet_of (plainFor_of_name (by decide +kernel)) rfl (Nat.le_of_ble_eq_true rfl) (fun z1 z2 z3 z4 z5 z6 z7 z8 z9 z10 z11 z12 z13 z14 O hin => ?_)
  refine zi_ls (ls' := [some (.ref 0), some (.int (nI j)), some (.int (nI w))]) rfl ?_
  refine zi_iload_n O d_Mov_look_0 rfl ?_
  refine zi_if_lt O 27 d_Mov_look_1 (by decide) (fun c1 => ?_) (fun c1 => ?_)
  · exact absurd c1 (nI_pos (by omega))
  · refine zi_iload_n O d_Mov_look_4 rfl ?_
    refine zi_aload_n O d_Mov_look_5 rfl ?_
    refine zi_get O f_Mov_12 d_Mov_look_6 rfl rfl ?_
    refine zi_get O f_Mov_26 d_Mov_look_9 rfl rfl ?_
    refine zi_get O f_Mov_40 d_Mov_look_12 rfl rfl ?_
    refine zi_icmp_geN O 27 d_Mov_look_15 (by decide) (by omega) (by omega) (fun c15 => ?_) (fun c15 => ?_)
    · omega
    · refine zi_iload_n O d_Mov_look_18 rfl ?_
      refine zi_if_lt O 27 d_Mov_look_19 (by decide) (fun c19 => ?_) (fun c19 => ?_)
      · exact absurd c19 (nI_pos (by omega))
      · refine zi_iload_n O d_Mov_look_22 rfl ?_
        refine zi_iconstN O 4 d_Mov_look_23 (by decide) ?_
        refine zi_icmp_leN O 29 d_Mov_look_24 (by decide) (by omega) (by omega) (fun c24 => ?_) (fun c24 => ?_)
        · refine zi_iload_n O d_Mov_look_29 rfl ?_
          refine zi_iconstN O 4 d_Mov_look_30 (by decide) ?_
          refine zi_icmp_neN O 49 d_Mov_look_31 (by decide) (by omega) (by omega) (fun c31 => ?_) (fun c31 => ?_)
          · refine zi_aload_n O d_Mov_look_49 rfl ?_
            refine zi_get O f_Mov_12 d_Mov_look_50 rfl rfl ?_
            refine zi_get O f_Mov_26 d_Mov_look_53 rfl rfl ?_
            refine zi_get O f_Mov_85 d_Mov_look_56 rfl rfl ?_
            refine zi_iconstN O 4 d_Mov_look_59 (by decide) ?_
            refine zi_iload_n O d_Mov_look_60 rfl ?_
            first | refine zi_imulN O d_Mov_look_61 ?_ | refine zi_imul O d_Mov_look_61 ?_
            refine zi_iload_n O d_Mov_look_62 rfl ?_
            first | refine zi_iaddN O d_Mov_look_63 ?_ | refine zi_iadd O d_Mov_look_63 ?_
            refine zi_iald O d_Mov_look_64 rfl rfl (by omega) (Nat.le_of_ble_eq_true rfl) ?_
            rw [(hR.2 _ (by omega)).1]
            refine zi_iret O d_Mov_look_65 (Nat.le_of_ble_eq_true rfl) (Nat.le_of_ble_eq_true rfl) (Nat.le_of_ble_eq_true rfl) ?_
            exact ⟨by rw [if_neg c31], rfl⟩
          · refine zi_aload_n O d_Mov_look_34 rfl ?_
            refine zi_get O f_Mov_12 d_Mov_look_35 rfl rfl ?_
            refine zi_get O f_Mov_26 d_Mov_look_38 rfl rfl ?_
            refine zi_get O f_Mov_81 d_Mov_look_41 rfl rfl ?_
            refine zi_iload_n O d_Mov_look_44 rfl ?_
            refine zi_iald O d_Mov_look_45 rfl rfl (by omega) (Nat.le_of_ble_eq_true rfl) ?_
            refine zi_goto O 65 d_Mov_look_46 (by decide) ?_
            refine zi_iret O d_Mov_look_65 (Nat.le_of_ble_eq_true rfl) (Nat.le_of_ble_eq_true rfl) (Nat.le_of_ble_eq_true rfl) ?_
            exact ⟨by rw [if_pos c31], rfl⟩
        · omega
theorem m_Mov_look_no_2 {hA hB : List zE} (hP0 : Dia n lab S ci el fr to_ at_ oc hA) (hR0 : Dr k plab T cj hB) (x w : Int32) (hx : x < 0 ∨ nI n ≤ x ∨ w < 0 ∨ nI 4 < w) : zPu y_Mov_look b_Mov_look 3 (some .int) ⟨0, 0, 0, 0⟩ [.ref 0, .int x, .int w] (movH 19 1 hB hA) (.int (nI 0)) := by
  have hPk := hP0
  have hRk := hR0
  obtain ⟨L, PL, LB, FR, TO, AT, OF, RD, ST, OC, CE, SL, rfl, hR, hG, hz, hE, hA, hRd, hO, hP, hOF⟩ := hP0
  have hn := hR.1
  have hFF := ff_le (by omega) (perm_D hE) (Nat.le_refl (4 * n))
  obtain ⟨L', m', PL', LB', FR', TO', AT', F', OF', RD', ST', pc', co', OC', CE', SL', rfl, hR', hG', hz'⟩ := hR0
  refine zMet_of (plainFor_of_name (by decide +kernel)) rfl (Nat.le_of_ble_eq_true rfl) (fun z1 z2 z3 z4 z5 z6 z7 z8 z9 z10 z11 z12 z13 z14 O hin => ?_)
  refine zi_ls (ls' := [some (.ref 0), some (.int x), some (.int w)]) rfl ?_
  refine zi_iload_n O d_Mov_look_0 rfl ?_
  refine zi_if_lt O 27 d_Mov_look_1 (by decide) (fun c1 => ?_) (fun c1 => ?_)
  · refine zi_iconstN O 0 d_Mov_look_27 (by decide) ?_
    refine zi_iret O d_Mov_look_28 (Nat.le_of_ble_eq_true rfl) (Nat.le_of_ble_eq_true rfl) (Nat.le_of_ble_eq_true rfl) ?_
    exact ⟨rfl, rfl⟩
  · refine zi_iload_n O d_Mov_look_4 rfl ?_
    refine zi_aload_n O d_Mov_look_5 rfl ?_
    refine zi_get O f_Mov_12 d_Mov_look_6 rfl rfl ?_
    refine zi_get O f_Mov_26 d_Mov_look_9 rfl rfl ?_
    refine zi_get O f_Mov_40 d_Mov_look_12 rfl rfl ?_
    refine zi_icmp_ge O 27 d_Mov_look_15 (by decide) (fun c15 => ?_) (fun c15 => ?_)
    · refine zi_iconstN O 0 d_Mov_look_27 (by decide) ?_
      refine zi_iret O d_Mov_look_28 (Nat.le_of_ble_eq_true rfl) (Nat.le_of_ble_eq_true rfl) (Nat.le_of_ble_eq_true rfl) ?_
      exact ⟨rfl, rfl⟩
    · refine zi_iload_n O d_Mov_look_18 rfl ?_
      refine zi_if_lt O 27 d_Mov_look_19 (by decide) (fun c19 => ?_) (fun c19 => ?_)
      · refine zi_iconstN O 0 d_Mov_look_27 (by decide) ?_
        refine zi_iret O d_Mov_look_28 (Nat.le_of_ble_eq_true rfl) (Nat.le_of_ble_eq_true rfl) (Nat.le_of_ble_eq_true rfl) ?_
        exact ⟨rfl, rfl⟩
      · refine zi_iload_n O d_Mov_look_22 rfl ?_
        refine zi_iconstN O 4 d_Mov_look_23 (by decide) ?_
        refine zi_icmp_le O 29 d_Mov_look_24 (by decide) (fun c24 => ?_) (fun c24 => ?_)
        · exact absurd hx (fun z => z.elim c1 (fun z => z.elim c15 (fun z => z.elim c19 (Int32.not_lt.mpr c24))))
        · refine zi_iconstN O 0 d_Mov_look_27 (by decide) ?_
          refine zi_iret O d_Mov_look_28 (Nat.le_of_ble_eq_true rfl) (Nat.le_of_ble_eq_true rfl) (Nat.le_of_ble_eq_true rfl) ?_
          exact ⟨rfl, rfl⟩
theorem m_Mov_face_no_2 {hA hB : List zE} (hP0 : Dia n lab S ci el fr to_ at_ oc hA) (hR0 : Dr k plab T cj hB) (x y : Int32) (hx : ¬ (0 ≤ x ∧ x < nI (FF (nxD fr to_ at_) (4 * n) (4 * n)).2)) : zPu y_Mov_face b_Mov_face 4 (some .int) ⟨1, 0, 0, 24⟩ [.ref 0, .int x, .int y] (movH 19 1 hB hA) (.int (nI 0)) := by
  have hPk := hP0
  have hRk := hR0
  obtain ⟨L, PL, LB, FR, TO, AT, OF, RD, ST, OC, CE, SL, rfl, hR, hG, hz, hE, hA, hRd, hO, hP, hOF⟩ := hP0
  have hn := hR.1
  have hFF := ff_le (by omega) (perm_D hE) (Nat.le_refl (4 * n))
  obtain ⟨L', m', PL', LB', FR', TO', AT', F', OF', RD', ST', pc', co', OC', CE', SL', rfl, hR', hG', hz'⟩ := hR0
  refine zMet_of (plainFor_of_name (by decide +kernel)) rfl (Nat.le_of_ble_eq_true rfl) (fun z1 z2 z3 z4 z5 z6 z7 z8 z9 z10 z11 z12 z13 z14 O hin => ?_)
  refine zi_ls (ls' := [some (.ref 0), some (.int x), some (.int y), none]) rfl ?_
  refine zi_aload_n O d_Mov_face_0 rfl ?_
  refine zi_get O f_Mov_12 d_Mov_face_1 rfl rfl ?_
  refine zi_get O f_Mov_54 d_Mov_face_4 rfl rfl ?_
  refine zi_iload_n O d_Mov_face_7 rfl ?_
  refine zi_pureV O [29, 30, 31, 32] c_Mov_88 k_Fac_has (m_Fac_has (FF (nxD fr to_ at_) (4 * n) (4 * n)).2 OF RD ST x) d_Mov_face_8 ⟨(Nat.le_of_ble_eq_true rfl), (Nat.le_of_ble_eq_true rfl)⟩ ⟨(Nat.le_of_ble_eq_true rfl), (Nat.le_of_ble_eq_true rfl)⟩ rfl rfl (Nat.le_of_ble_eq_true rfl) rfl rfl rfl rfl rfl (Nat.le_of_ble_eq_true rfl) rfl ?_
  rw [zb_f hx]
  refine zi_if_ne O 16 d_Mov_face_11 (by decide) (fun c11 => ?_) (fun c11 => ?_)
  · exact absurd rfl c11
  · refine zi_iconstN O 0 d_Mov_face_14 (by decide) ?_
    refine zi_iret O d_Mov_face_15 (Nat.le_of_ble_eq_true rfl) (Nat.le_of_ble_eq_true rfl) (Nat.le_of_ble_eq_true rfl) ?_
    exact ⟨rfl, rfl⟩
set_option maxHeartbeats 1000000 in
theorem m_Mov_face_2 {hA hB : List zE} (hP0 : Dia n lab S ci el fr to_ at_ oc hA) (hR0 : Dr k plab T cj hB) (j l t : Nat) (y : Int32) (hj : j < (FF (nxD fr to_ at_) (4 * n) (4 * n)).2) (hF : FaceK n (nxD fr to_ at_) j l t) : zMet y_Mov_face b_Mov_face 4 (some .int) ⟨1, 0, 0, 24⟩ [.ref 0, .int (nI j), .int y] (movH 19 1 hB hA)
    (fun r h' => h' = movH 19 1 hB hA ∧ ((y = -1 ∧ r = some (.int (nI t))) ∨ (¬ y = -1 ∧ (y < 0 ∨ nI t ≤ y) ∧ r = some (.int (nI 0))) ∨ (∃ i, i < t ∧ y = nI i ∧ r = some (.int (if it (nxD fr to_ at_) i l % 2 = 0 then nI (el (it (nxD fr to_ at_) i l / 2)) else -(nI (el (it (nxD fr to_ at_) i l / 2)))))))) := by
  have hPk := hP0
  have hRk := hR0
  obtain ⟨L, PL, LB, FR, TO, AT, OF, RD, ST, OC, CE, SL, rfl, hR, hG, hz, hE, hA, hRd, hO, hP, hOF⟩ := hP0
  have hn := hR.1
  have hFF := ff_le (by omega) (perm_D hE) (Nat.le_refl (4 * n))
  obtain ⟨L', m', PL', LB', FR', TO', AT', F', OF', RD', ST', pc', co', OC', CE', SL', rfl, hR', hG', hz'⟩ := hR0
  obtain ⟨l', t', a, hF', ha, hs1, hs2, hr⟩ := rd_face hRd hj
  obtain ⟨rfl, rfl⟩ := faceK_uniq hF hF'
  have ht := hF.2.1
  refine zMet_of (plainFor_of_name (by decide +kernel)) rfl (Nat.le_of_ble_eq_true rfl) (fun z1 z2 z3 z4 z5 z6 z7 z8 z9 z10 z11 z12 z13 z14 O hin => ?_)
  refine zi_ls (ls' := [some (.ref 0), some (.int (nI j)), some (.int y), none]) rfl ?_
  refine zi_aload_n O d_Mov_face_0 rfl ?_
  refine zi_get O f_Mov_12 d_Mov_face_1 rfl rfl ?_
  refine zi_get O f_Mov_54 d_Mov_face_4 rfl rfl ?_
  refine zi_iload_n O d_Mov_face_7 rfl ?_
  refine zi_pureV O [29, 30, 31, 32] c_Mov_88 k_Fac_has (m_Fac_has (FF (nxD fr to_ at_) (4 * n) (4 * n)).2 OF RD ST (nI j)) d_Mov_face_8 ⟨(Nat.le_of_ble_eq_true rfl), (Nat.le_of_ble_eq_true rfl)⟩ ⟨(Nat.le_of_ble_eq_true rfl), (Nat.le_of_ble_eq_true rfl)⟩ rfl rfl (Nat.le_of_ble_eq_true rfl) rfl rfl rfl rfl rfl (Nat.le_of_ble_eq_true rfl) rfl ?_
  rw [zb_t ⟨nI_pos' (by omega), nI_lt hj (by omega)⟩]
  refine zi_if_ne O 16 d_Mov_face_11 (by decide) (fun c11 => ?_) (fun c11 => ?_)
  · refine zi_aload_n O d_Mov_face_16 rfl ?_
    refine zi_get O f_Mov_12 d_Mov_face_17 rfl rfl ?_
    refine zi_get O f_Mov_54 d_Mov_face_20 rfl rfl ?_
    refine zi_iload_n O d_Mov_face_23 rfl ?_
    refine zi_pureV O [29, 30, 31, 32] c_Mov_91 k_Fac_size (m_Fac_size (FF (nxD fr to_ at_) (4 * n) (4 * n)).2 OF RD ST j a (a + t') (by omega) hs1 hs2 (by omega)) d_Mov_face_24 ⟨(Nat.le_of_ble_eq_true rfl), (Nat.le_of_ble_eq_true rfl)⟩ ⟨(Nat.le_of_ble_eq_true rfl), (Nat.le_of_ble_eq_true rfl)⟩ rfl rfl (Nat.le_of_ble_eq_true rfl) rfl rfl rfl rfl rfl (Nat.le_of_ble_eq_true rfl) rfl ?_
    rw [show a + t' - a = t' by omega]
    refine zi_istore_n (ls' := _ :: _ :: _ :: some _ :: _) O d_Mov_face_27 rfl (by decide) rfl ?_
    refine zi_iload_n O d_Mov_face_28 rfl ?_
    refine zi_iconst (v := -1) O d_Mov_face_29 (by decide) ?_
    refine zi_icmp_ne O 35 d_Mov_face_30 (by decide) (fun c30 => ?_) (fun c30 => ?_)
    · refine zi_iload_n O d_Mov_face_35 rfl ?_
      refine zi_if_lt O 44 d_Mov_face_36 (by decide) (fun c36 => ?_) (fun c36 => ?_)
      · refine zi_iconstN O 0 d_Mov_face_44 (by decide) ?_
        refine zi_iret O d_Mov_face_45 (Nat.le_of_ble_eq_true rfl) (Nat.le_of_ble_eq_true rfl) (Nat.le_of_ble_eq_true rfl) ?_
        exact ⟨rfl, Or.inr (Or.inl ⟨c30, Or.inl c36, rfl⟩)⟩
      · obtain ⟨i, hi31, rfl⟩ := nI_of c36
        refine zi_iload_n O d_Mov_face_39 rfl ?_
        refine zi_iload_n O d_Mov_face_40 rfl ?_
        refine zi_icmp_ltN O 46 d_Mov_face_41 (by decide) (by omega) (by omega) (fun c41 => ?_) (fun c41 => ?_)
        · refine zi_aload_n O d_Mov_face_46 rfl ?_
          refine zi_get O f_Mov_12 d_Mov_face_47 rfl rfl ?_
          refine zi_get O f_Mov_71 d_Mov_face_50 rfl rfl ?_
          refine zi_aload_n O d_Mov_face_53 rfl ?_
          refine zi_get O f_Mov_12 d_Mov_face_54 rfl rfl ?_
          refine zi_get O f_Mov_54 d_Mov_face_57 rfl rfl ?_
          refine zi_iload_n O d_Mov_face_60 rfl ?_
          refine zi_iload_n O d_Mov_face_61 rfl ?_
          refine zi_pureV O [29, 30, 31, 32] c_Mov_94 k_Fac_dart (m_Fac_dart (FF (nxD fr to_ at_) (4 * n) (4 * n)).2 OF RD ST j i a (it (nxD fr to_ at_) i l') (by omega) hs1 (by omega) (hr i c41)) d_Mov_face_62 ⟨(Nat.le_of_ble_eq_true rfl), (Nat.le_of_ble_eq_true rfl)⟩ ⟨(Nat.le_of_ble_eq_true rfl), (Nat.le_of_ble_eq_true rfl)⟩ rfl rfl (Nat.le_of_ble_eq_true rfl) rfl rfl rfl rfl rfl (Nat.le_of_ble_eq_true rfl) rfl ?_
          have hd := it_lt (perm_D hE) hF.1 i
          refine zi_pureV O [23, 24, 25, 26, 27, 28] c_Mov_98 k_Edg_signedLabel (m_Edg_signedLabel (2 * n) PL LB FR TO AT (it (nxD fr to_ at_) i l') (by omega)) d_Mov_face_65 ⟨(Nat.le_of_ble_eq_true rfl), (Nat.le_of_ble_eq_true rfl)⟩ ⟨(Nat.le_of_ble_eq_true rfl), (Nat.le_of_ble_eq_true rfl)⟩ rfl rfl (Nat.le_of_ble_eq_true rfl) rfl rfl rfl rfl rfl (Nat.le_of_ble_eq_true rfl) rfl ?_
          rw [(hA.1 _ (by omega)).1]
          refine zi_iret O d_Mov_face_68 (Nat.le_of_ble_eq_true rfl) (Nat.le_of_ble_eq_true rfl) (Nat.le_of_ble_eq_true rfl) ?_
          exact ⟨rfl, Or.inr (Or.inr ⟨i, c41, rfl, rfl⟩)⟩
        · refine zi_iconstN O 0 d_Mov_face_44 (by decide) ?_
          refine zi_iret O d_Mov_face_45 (Nat.le_of_ble_eq_true rfl) (Nat.le_of_ble_eq_true rfl) (Nat.le_of_ble_eq_true rfl) ?_
          exact ⟨rfl, Or.inr (Or.inl ⟨c30, Or.inr (nI_le c41 (by omega)), rfl⟩)⟩
    · refine zi_iload_n O d_Mov_face_33 rfl ?_
      refine zi_iret O d_Mov_face_34 (Nat.le_of_ble_eq_true rfl) (Nat.le_of_ble_eq_true rfl) (Nat.le_of_ble_eq_true rfl) ?_
      exact ⟨rfl, Or.inl ⟨c30, rfl⟩⟩
  · exact absurd c11 (by decide)
theorem m_Mov_pattern_no_2 {hA hB : List zE} (hP0 : Dia n lab S ci el fr to_ at_ oc hA) (hR0 : Dr k plab T cj hB) (x : Int32) (hx : ¬ (0 ≤ x ∧ x < nI (FF (nxD fr to_ at_) (4 * n) (4 * n)).2)) : zPu y_Mov_pattern b_Mov_pattern 2 (some .int) ⟨4, 0, 0, 115⟩ [.ref 0, .int x] (movH 19 1 hB hA) (.int (-1)) := by
  have hPk := hP0
  have hRk := hR0
  obtain ⟨L, PL, LB, FR, TO, AT, OF, RD, ST, OC, CE, SL, rfl, hR, hG, hz, hE, hA, hRd, hO, hP, hOF⟩ := hP0
  have hn := hR.1
  have hFF := ff_le (by omega) (perm_D hE) (Nat.le_refl (4 * n))
  obtain ⟨L', m', PL', LB', FR', TO', AT', F', OF', RD', ST', pc', co', OC', CE', SL', rfl, hR', hG', hz'⟩ := hR0
  refine zMet_of (plainFor_of_name (by decide +kernel)) rfl (Nat.le_of_ble_eq_true rfl) (fun z1 z2 z3 z4 z5 z6 z7 z8 z9 z10 z11 z12 z13 z14 O hin => ?_)
  refine zi_ls (ls' := [some (.ref 0), some (.int x)]) rfl ?_
  refine zi_aload_n O d_Mov_pattern_0 rfl ?_
  refine zi_get O f_Mov_12 d_Mov_pattern_1 rfl rfl ?_
  refine zi_get O f_Mov_54 d_Mov_pattern_4 rfl rfl ?_
  refine zi_iload_n O d_Mov_pattern_7 rfl ?_
  refine zi_pureV O [29, 30, 31, 32] c_Mov_88 k_Fac_has (m_Fac_has (FF (nxD fr to_ at_) (4 * n) (4 * n)).2 OF RD ST x) d_Mov_pattern_8 ⟨(Nat.le_of_ble_eq_true rfl), (Nat.le_of_ble_eq_true rfl)⟩ ⟨(Nat.le_of_ble_eq_true rfl), (Nat.le_of_ble_eq_true rfl)⟩ rfl rfl (Nat.le_of_ble_eq_true rfl) rfl rfl rfl rfl rfl (Nat.le_of_ble_eq_true rfl) rfl ?_
  rw [zb_f hx]
  refine zi_if_eq O 25 d_Mov_pattern_11 (by decide) (fun c11 => ?_) (fun c11 => ?_)
  · refine zi_iconst (v := -1) O d_Mov_pattern_25 (by decide) ?_
    refine zi_iret O d_Mov_pattern_26 (Nat.le_of_ble_eq_true rfl) (Nat.le_of_ble_eq_true rfl) (Nat.le_of_ble_eq_true rfl) ?_
    exact ⟨rfl, rfl⟩
  · exact absurd rfl c11
theorem m_Mov_pattern_2 {hA hB : List zE} (hP0 : Dia n lab S ci el fr to_ at_ oc hA) (hR0 : Dr k plab T cj hB) (j l t : Nat) (hj : j < (FF (nxD fr to_ at_) (4 * n) (4 * n)).2) (hF : FaceK n (nxD fr to_ at_) j l t) : zPu y_Mov_pattern b_Mov_pattern 2 (some .int) ⟨4, 0, 0, 115⟩ [.ref 0, .int (nI j)] (movH 19 1 hB hA) (.int (nI (pat fr to_ (nxD fr to_ at_) l t))) := by
  have hPk := hP0
  have hRk := hR0
  obtain ⟨L, PL, LB, FR, TO, AT, OF, RD, ST, OC, CE, SL, rfl, hR, hG, hz, hE, hA, hRd, hO, hP, hOF⟩ := hP0
  have hn := hR.1
  have hFF := ff_le (by omega) (perm_D hE) (Nat.le_refl (4 * n))
  obtain ⟨L', m', PL', LB', FR', TO', AT', F', OF', RD', ST', pc', co', OC', CE', SL', rfl, hR', hG', hz'⟩ := hR0
  refine zMet_of (plainFor_of_name (by decide +kernel)) rfl (Nat.le_of_ble_eq_true rfl) (fun z1 z2 z3 z4 z5 z6 z7 z8 z9 z10 z11 z12 z13 z14 O hin => ?_)
  refine zi_ls (ls' := [some (.ref 0), some (.int (nI j))]) rfl ?_
  refine zi_aload_n O d_Mov_pattern_0 rfl ?_
  refine zi_get O f_Mov_12 d_Mov_pattern_1 rfl rfl ?_
  refine zi_get O f_Mov_54 d_Mov_pattern_4 rfl rfl ?_
  refine zi_iload_n O d_Mov_pattern_7 rfl ?_
  refine zi_pureV O [29, 30, 31, 32] c_Mov_88 k_Fac_has (m_Fac_has (FF (nxD fr to_ at_) (4 * n) (4 * n)).2 OF RD ST (nI j)) d_Mov_pattern_8 ⟨(Nat.le_of_ble_eq_true rfl), (Nat.le_of_ble_eq_true rfl)⟩ ⟨(Nat.le_of_ble_eq_true rfl), (Nat.le_of_ble_eq_true rfl)⟩ rfl rfl (Nat.le_of_ble_eq_true rfl) rfl rfl rfl rfl rfl (Nat.le_of_ble_eq_true rfl) rfl ?_
  rw [zb_t ⟨nI_pos' (by omega), nI_lt hj (by omega)⟩]
  refine zi_if_eq O 25 d_Mov_pattern_11 (by decide) (fun c11 => ?_) (fun c11 => ?_)
  · exact absurd c11 (by decide)
  · refine zi_aload_n O d_Mov_pattern_14 rfl ?_
    refine zi_get O f_Mov_12 d_Mov_pattern_15 rfl rfl ?_
    refine zi_iload_n O d_Mov_pattern_18 rfl ?_
    refine zi_blkP O 19 (zo 0 [.ref 19, .ref 1] :: (diaH cj k L' T m' PL' LB' FR' TO' AT' F' OF' RD' ST' pc' co' OC' CE' SL').map (zc (fun q => q + 1))) (diaH ci n L S (2 * n) PL LB FR TO AT (FF (nxD fr to_ at_) (4 * n) (4 * n)).2 OF RD ST (rc oc n) (FF (nxE to_ at_) (2 * n) (2 * n)).2 OC CE SL) ([]) rfl rfl c_Mov_101 k_Dia_patternAt (m_Dia_patternAt hPk j l t hj hF) d_Mov_pattern_19 ⟨(Nat.le_of_ble_eq_true rfl), (Nat.le_of_ble_eq_true rfl)⟩ ⟨(Nat.le_of_ble_eq_true rfl), (Nat.le_of_ble_eq_true rfl)⟩ rfl rfl (Nat.le_of_ble_eq_true rfl) rfl rfl rfl (Nat.le_of_ble_eq_true rfl) rfl rfl rfl ?_
    refine zi_goto O 26 d_Mov_pattern_22 (by decide) ?_
    refine zi_iret O d_Mov_pattern_26 (Nat.le_of_ble_eq_true rfl) (Nat.le_of_ble_eq_true rfl) (Nat.le_of_ble_eq_true rfl) ?_
    exact ⟨rfl, rfl⟩
end
