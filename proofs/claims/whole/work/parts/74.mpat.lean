/-! The model: face, pattern -/
theorem rd_ex {N : Nat} {nx : Nat → Nat} (hN : N < 2 ^ 31) (hp : Perm N nx) : ∀ d, d ≤ N → ∃ RD ST : Nat → Int32, RdOK N nx d RD ST
  | 0, _ => by
    refine ⟨fun _ => 0, fun _ => nI 0, fun _ => 0, fun k hk => rfl, rfl, ?_, fun k hk => absurd hk (Nat.not_lt_zero k)⟩
    show 0 = cs (fun _ => -1) N
    have : ∀ N, cs (fun _ => (-1 : Int32)) N = 0 := by
      intro N
      induction N with
      | zero => rfl
      | succ N ih => rw [cs, ih, if_pos (by decide)]
    rw [this]
  | d + 1, hd => by
    obtain ⟨RD, ST, hR⟩ := rd_ex hN hp d (by omega)
    obtain ⟨g1, g2, g3, g4⟩ := ff_cl hN hp d (by omega)
    have hF := ff_le hN hp (d := d) (by omega)
    by_cases hf : (FF nx N d).1 d < 0
    · obtain ⟨t, t0, tb, td, t1, t2, tc, tw, tcl⟩ := walk_round (v := nI (FF nx N d).2) hp g1 (by omega) hf (nI_pos (by omega))
      exact ⟨_, _, rdOK_add hN hp (by omega) hR hf t0 tb td tc tw⟩
    · have e : FF nx N (d + 1) = FF nx N d := by rw [FF, if_neg hf]
      refine ⟨RD, ST, ?_⟩
      unfold RdOK at hR ⊢
      rw [e]
      obtain ⟨st, h1, h2, h3, h4⟩ := hR
      refine ⟨st, h1, h2, h3, fun k hk => ?_⟩
      obtain ⟨l, t, q1, q2⟩ := h4 k hk
      exact ⟨l, t, by omega, q2⟩
theorem face_ex {n : Nat} {lab : Nat → Nat} {S : Nat → Int32} {el fr to_ at_ : Nat → Nat} (hn : n ≤ 20) (h : Ed n lab S el fr to_ at_) {k : Nat} (hk : k < (FF (nxD fr to_ at_) (4 * n) (4 * n)).2) : ∃ l t, FaceK n (nxD fr to_ at_) k l t ∧ t ≤ 4 * n := by
  obtain ⟨RD, ST, hR⟩ := rd_ex (by omega) (perm_D h) (4 * n) (Nat.le_refl _)
  obtain ⟨l, t, a, h1, h2, -⟩ := rd_face hR hk
  exact ⟨l, t, h1, by omega⟩
theorem face_le {n : Nat} {lab : Nat → Nat} {S : Nat → Int32} {el fr to_ at_ : Nat → Nat} (hn : n ≤ 20) (h : Ed n lab S el fr to_ at_) {k l t : Nat} (hk : k < (FF (nxD fr to_ at_) (4 * n) (4 * n)).2) (hF : FaceK n (nxD fr to_ at_) k l t) : t ≤ 4 * n := by
  obtain ⟨l', t', h1, h2⟩ := face_ex hn h hk
  have := faceK_uniq h1 hF
  omega
section
variable {put n oN labs closed faces sides : Nat} {wrong ci oC : Int32} {pS pL S L oS oL row fresh piece comp fof side free arnd : Nat → Int32}
theorem m_Mod_face_no {lab el fr to_ at_ : Nat → Nat} (hR : RowOK n L lab) (hG : Sg n S) (h : Ed n lab S el fr to_ at_) (x y : Int32) (hx : ¬ (0 ≤ x ∧ x < nI (FF (nxD fr to_ at_) (4 * n) (4 * n)).2)) : zMet y_Mod_face b_Mod_face 3 (some .int) ⟨5, 0, 0, 140⟩ [.ref 0, .int x, .int y] (mh put wrong pS pL n ci oN oC S L oS oL labs row fresh piece closed faces comp fof sides side free arnd)
    (fun r h' => r = some (.int (nI 0)) ∧ ∃ (row' fof' : Nat → Int32), h' = (mh put wrong pS pL n ci oN oC S L oS oL (2 * n) row' fresh piece closed ((FF (nxD fr to_ at_) (4 * n) (4 * n)).2) comp fof' 0 side free arnd)) := by
  refine zMet_of (plainFor_of_name (by decide +kernel)) rfl (Nat.le_of_ble_eq_true rfl) (fun z1 z2 z3 z4 z5 z6 z7 z8 z9 z10 z11 z12 z13 z14 O hin => ?_)
  refine zi_ls (ls' := [some (.ref 0), some (.int x), some (.int y)]) rfl ?_
  refine zi_aload_n O d_Mod_face_0 rfl ?_
  refine zi_iload_n O d_Mod_face_1 rfl ?_
  refine zi_selfV O c_Mod_157 k_Mod_findSides (m_Mod_findSides_no hR hG h x hx) d_Mod_face_2 ⟨(Nat.le_of_ble_eq_true rfl), (Nat.le_of_ble_eq_true rfl)⟩ ⟨(Nat.le_of_ble_eq_true rfl), (Nat.le_of_ble_eq_true rfl)⟩ rfl rfl (Nat.le_of_ble_eq_true rfl) rfl rfl rfl (Nat.le_of_ble_eq_true rfl) rfl (fun r h' hq hl => ?_)
  obtain ⟨rfl, row', fof', rfl⟩ := hq
  refine zi_st (st' := [.int (nI 0)]) rfl ?_
  refine zi_if_eq O 21 d_Mod_face_5 (by decide) (fun c5 => ?_) (fun c5 => ?_)
  · refine zi_iconstN O 0 d_Mod_face_21 (by decide) ?_
    refine zi_iret O d_Mod_face_22 (Nat.le_of_ble_eq_true rfl) (Nat.le_of_ble_eq_true rfl) (Nat.le_of_ble_eq_true rfl) ?_
    exact ⟨rfl, row', fof', rfl⟩
  · exact absurd rfl c5
set_option maxHeartbeats 1000000 in
theorem m_Mod_face {lab el fr to_ at_ : Nat → Nat} (hR : RowOK n L lab) (hG : Sg n S) (h : Ed n lab S el fr to_ at_) {k l t : Nat} (hk : k < (FF (nxD fr to_ at_) (4 * n) (4 * n)).2) (hF : FaceK n (nxD fr to_ at_) k l t) (y : Int32) : zMet y_Mod_face b_Mod_face 3 (some .int) ⟨5, 0, 0, 140⟩ [.ref 0, .int (nI k), .int y] (mh put wrong pS pL n ci oN oC S L oS oL labs row fresh piece closed faces comp fof sides side free arnd)
    (fun r h' => (∃ (row' fof' side' : Nat → Int32), h' = (mh put wrong pS pL n ci oN oC S L oS oL (2 * n) row' fresh piece closed ((FF (nxD fr to_ at_) (4 * n) (4 * n)).2) comp fof' t side' free arnd)) ∧ ((y = -1 ∧ r = some (.int (nI t))) ∨ (¬ y = -1 ∧ (y < 0 ∨ nI t ≤ y) ∧ r = some (.int (nI 0))) ∨ (∃ i, i < t ∧ y = nI i ∧ r = some (.int (if it (nxD fr to_ at_) i l % 2 = 0 then nI (el (it (nxD fr to_ at_) i l / 2)) else -(nI (el (it (nxD fr to_ at_) i l / 2)))))))) := by
  have hn := hR.1
  have ht := face_le hn h hk hF
  refine zMet_of (plainFor_of_name (by decide +kernel)) rfl (Nat.le_of_ble_eq_true rfl) (fun z1 z2 z3 z4 z5 z6 z7 z8 z9 z10 z11 z12 z13 z14 O hin => ?_)
  refine zi_ls (ls' := [some (.ref 0), some (.int (nI k)), some (.int y)]) rfl ?_
  refine zi_aload_n O d_Mod_face_0 rfl ?_
  refine zi_iload_n O d_Mod_face_1 rfl ?_
  refine zi_selfV O c_Mod_157 k_Mod_findSides (m_Mod_findSides hR hG h hk hF ht) d_Mod_face_2 ⟨(Nat.le_of_ble_eq_true rfl), (Nat.le_of_ble_eq_true rfl)⟩ ⟨(Nat.le_of_ble_eq_true rfl), (Nat.le_of_ble_eq_true rfl)⟩ rfl rfl (Nat.le_of_ble_eq_true rfl) rfl rfl rfl (Nat.le_of_ble_eq_true rfl) rfl (fun r h' hq hl => ?_)
  obtain ⟨rfl, row', fof', side', rfl, hsd⟩ := hq
  refine zi_st (st' := [.int (nI 1)]) rfl ?_
  refine zi_if_eq O 21 d_Mod_face_5 (by decide) (fun c5 => ?_) (fun c5 => ?_)
  · exact absurd c5 (by decide)
  · refine zi_iload_n O d_Mod_face_8 rfl ?_
    refine zi_iconst (v := -1) O d_Mod_face_9 (by decide) ?_
    refine zi_icmp_lt O 21 d_Mod_face_10 (by decide) (fun c10 => ?_) (fun c10 => ?_)
    · refine zi_iconstN O 0 d_Mod_face_21 (by decide) ?_
      refine zi_iret O d_Mod_face_22 (Nat.le_of_ble_eq_true rfl) (Nat.le_of_ble_eq_true rfl) (Nat.le_of_ble_eq_true rfl) ?_
      refine ⟨⟨row', fof', side', rfl⟩, Or.inr (Or.inl ⟨fun z => ?_, Or.inl ?_, rfl⟩)⟩
      · rw [z] at c10; exact absurd c10 (by decide)
      · exact Int32.lt_trans c10 (by decide)
    · refine zi_iload_n O d_Mod_face_13 rfl ?_
      refine zi_aload_n O d_Mod_face_14 rfl ?_
      refine zi_get O f_Mod_154 d_Mod_face_15 rfl rfl ?_
      refine zi_icmp_lt O 23 d_Mod_face_18 (by decide) (fun c18 => ?_) (fun c18 => ?_)
      · refine zi_iload_n O d_Mod_face_23 rfl ?_
        refine zi_if_ge O 32 d_Mod_face_24 (by decide) (fun c24 => ?_) (fun c24 => ?_)
        · obtain ⟨i, hi31, rfl⟩ := nI_of (Int32.not_lt.mpr c24)
          have hi : i < t := (nI_ltI hi31 (by omega)).mp c18
          have hlt := it_lt (perm_D h) hF.1 i
          have hdl := dl_lt hR h hlt
          refine zi_aload_n O d_Mod_face_32 rfl ?_
          refine zi_get O f_Mod_47 d_Mod_face_33 rfl rfl ?_
          refine zi_iload_n O d_Mod_face_36 rfl ?_
          refine zi_iald O d_Mod_face_37 rfl rfl (by omega) (Nat.le_of_ble_eq_true rfl) ?_
          rw [hsd i hi]
          refine zi_iconstN O 2 d_Mod_face_38 (by decide) ?_
          refine zi_iremN O d_Mod_face_39 (by omega) (by omega) (by omega) ?_
          refine zi_iconstN O 1 d_Mod_face_40 (by decide) ?_
          refine zi_icmp_neN O 56 d_Mod_face_41 (by decide) (by omega) (by omega) (fun c41 => ?_) (fun c41 => ?_)
          · refine zi_aload_n O d_Mod_face_56 rfl ?_
            refine zi_get O f_Mod_47 d_Mod_face_57 rfl rfl ?_
            refine zi_iload_n O d_Mod_face_60 rfl ?_
            refine zi_iald O d_Mod_face_61 rfl rfl (by omega) (Nat.le_of_ble_eq_true rfl) ?_
            rw [hsd i hi]
            refine zi_iconstN O 2 d_Mod_face_62 (by decide) ?_
            refine zi_idivN O d_Mod_face_63 (by omega) (by omega) (by omega) ?_
            refine zi_iret O d_Mod_face_64 (Nat.le_of_ble_eq_true rfl) (Nat.le_of_ble_eq_true rfl) (Nat.le_of_ble_eq_true rfl) ?_
            rw [dl_mod] at c41
            exact ⟨⟨row', fof', side', rfl⟩, Or.inr (Or.inr ⟨i, hi, rfl, by rw [if_pos (by omega), dl_div]⟩)⟩
          · refine zi_aload_n O d_Mod_face_44 rfl ?_
            refine zi_get O f_Mod_47 d_Mod_face_45 rfl rfl ?_
            refine zi_iload_n O d_Mod_face_48 rfl ?_
            refine zi_iald O d_Mod_face_49 rfl rfl (by omega) (Nat.le_of_ble_eq_true rfl) ?_
            rw [hsd i hi]
            refine zi_iconstN O 2 d_Mod_face_50 (by decide) ?_
            refine zi_idivN O d_Mod_face_51 (by omega) (by omega) (by omega) ?_
            refine zi_ineg O d_Mod_face_52 ?_
            refine zi_goto O 64 d_Mod_face_53 (by decide) ?_
            refine zi_iret O d_Mod_face_64 (Nat.le_of_ble_eq_true rfl) (Nat.le_of_ble_eq_true rfl) (Nat.le_of_ble_eq_true rfl) ?_
            rw [dl_mod] at c41
            exact ⟨⟨row', fof', side', rfl⟩, Or.inr (Or.inr ⟨i, hi, rfl, by rw [if_neg (by omega), dl_div]⟩)⟩
        · have hy1 : y = -1 := by
            have a1 := Int32.not_lt.mp c10
            have a2 := Int32.not_le.mp c24
            apply Int32.toInt_inj.mp
            rw [Int32.le_iff_toInt_le] at a1
            rw [Int32.lt_iff_toInt_lt] at a2
            have e1 : (-1 : Int32).toInt = -1 := by decide
            have e2 : (0 : Int32).toInt = 0 := by decide
            rw [e1] at a1 ⊢
            rw [e2] at a2
            omega
          refine zi_aload_n O d_Mod_face_27 rfl ?_
          refine zi_get O f_Mod_154 d_Mod_face_28 rfl rfl ?_
          refine zi_iret O d_Mod_face_31 (Nat.le_of_ble_eq_true rfl) (Nat.le_of_ble_eq_true rfl) (Nat.le_of_ble_eq_true rfl) ?_
          exact ⟨⟨row', fof', side', rfl⟩, Or.inl ⟨hy1, rfl⟩⟩
      · refine zi_iconstN O 0 d_Mod_face_21 (by decide) ?_
        refine zi_iret O d_Mod_face_22 (Nat.le_of_ble_eq_true rfl) (Nat.le_of_ble_eq_true rfl) (Nat.le_of_ble_eq_true rfl) ?_
        refine ⟨⟨row', fof', side', rfl⟩, Or.inr (Or.inl ⟨fun z => ?_, Or.inr (Int32.not_lt.mp c18), rfl⟩)⟩
        rw [z] at c18
        exact c18 (Int32.lt_of_lt_of_le (by decide) (Int32.not_lt.mp (nI_pos (by omega))))
theorem m_Mod_uppers {lab el fr to_ at_ : Nat → Nat} (hR : RowOK n L lab) (hG : Sg n S) (h : Ed n lab S el fr to_ at_) {e : Nat} (he : e < 2 * n) : zPu y_Mod_uppers b_Mod_uppers 2 (some .int) ⟨2, 0, 0, 50⟩ [.ref 0, .int (nI (el e))] (mh put wrong pS pL n ci oN oC S L oS oL labs row fresh piece closed faces comp fof sides side free arnd) (.int (nI (ue fr to_ e))) := by
  have hn := hR.1
  obtain ⟨f1, f2, -⟩ := h.1 e he
  refine zMet_of (plainFor_of_name (by decide +kernel)) rfl (Nat.le_of_ble_eq_true rfl) (fun z1 z2 z3 z4 z5 z6 z7 z8 z9 z10 z11 z12 z13 z14 O hin => ?_)
  refine zi_ls (ls' := [some (.ref 0), some (.int (nI (el e)))]) rfl ?_
  refine zi_aload_n O d_Mod_uppers_0 rfl ?_
  refine zi_iload_n O d_Mod_uppers_1 rfl ?_
  refine zi_iconstN O 1 d_Mod_uppers_2 (by decide) ?_
  refine zi_selfP O c_Mod_66 k_Mod_placeOf (m_Mod_fr hR hG h he) d_Mod_uppers_3 ⟨(Nat.le_of_ble_eq_true rfl), (Nat.le_of_ble_eq_true rfl)⟩ ⟨(Nat.le_of_ble_eq_true rfl), (Nat.le_of_ble_eq_true rfl)⟩ rfl rfl (Nat.le_of_ble_eq_true rfl) rfl rfl rfl (Nat.le_of_ble_eq_true rfl) rfl ?_
  refine zi_pureS O [] c_Mod_160 k_Mod_isUpper (m_Mod_isUpper (fr e) (by omega)) d_Mod_uppers_6 ⟨(Nat.le_of_ble_eq_true rfl), (Nat.le_of_ble_eq_true rfl)⟩ ⟨(Nat.le_of_ble_eq_true rfl), (Nat.le_of_ble_eq_true rfl)⟩ rfl (Nat.le_of_ble_eq_true rfl) rfl rfl rfl rfl rfl (Nat.le_of_ble_eq_true rfl) rfl ?_
  by_cases a : fr e % 2 = 1
  · rw [zb_t a]
    refine zi_if_eq O 16 d_Mod_uppers_9 (by decide) (fun c9 => ?_) (fun c9 => ?_)
    · exact absurd c9 (by decide)
    · refine zi_iconstN O 1 d_Mod_uppers_12 (by decide) ?_
      refine zi_goto O 17 d_Mod_uppers_13 (by decide) ?_
      refine zi_aload_n O d_Mod_uppers_17 rfl ?_
      refine zi_iload_n O d_Mod_uppers_18 rfl ?_
      refine zi_iconstN O 0 d_Mod_uppers_19 (by decide) ?_
      refine zi_selfP O c_Mod_66 k_Mod_placeOf (m_Mod_to hR hG h he) d_Mod_uppers_20 ⟨(Nat.le_of_ble_eq_true rfl), (Nat.le_of_ble_eq_true rfl)⟩ ⟨(Nat.le_of_ble_eq_true rfl), (Nat.le_of_ble_eq_true rfl)⟩ rfl rfl (Nat.le_of_ble_eq_true rfl) rfl rfl rfl (Nat.le_of_ble_eq_true rfl) rfl ?_
      refine zi_pureS O [] c_Mod_160 k_Mod_isUpper (m_Mod_isUpper (to_ e) (by omega)) d_Mod_uppers_23 ⟨(Nat.le_of_ble_eq_true rfl), (Nat.le_of_ble_eq_true rfl)⟩ ⟨(Nat.le_of_ble_eq_true rfl), (Nat.le_of_ble_eq_true rfl)⟩ rfl (Nat.le_of_ble_eq_true rfl) rfl rfl rfl rfl rfl (Nat.le_of_ble_eq_true rfl) rfl ?_
      by_cases b : to_ e % 2 = 1
      · rw [zb_t b]
        refine zi_if_eq O 33 d_Mod_uppers_26 (by decide) (fun c26 => ?_) (fun c26 => ?_)
        · exact absurd c26 (by decide)
        · refine zi_iconstN O 1 d_Mod_uppers_29 (by decide) ?_
          refine zi_goto O 34 d_Mod_uppers_30 (by decide) ?_
          first | refine zi_iaddN O d_Mod_uppers_34 ?_ | refine zi_iadd O d_Mod_uppers_34 ?_
          refine zi_iret O d_Mod_uppers_35 (Nat.le_of_ble_eq_true rfl) (Nat.le_of_ble_eq_true rfl) (Nat.le_of_ble_eq_true rfl) ?_
          exact ⟨by unfold ue; rw [a, b], rfl⟩
      · rw [zb_f b]
        refine zi_if_eq O 33 d_Mod_uppers_26 (by decide) (fun c26 => ?_) (fun c26 => ?_)
        · refine zi_iconstN O 0 d_Mod_uppers_33 (by decide) ?_
          first | refine zi_iaddN O d_Mod_uppers_34 ?_ | refine zi_iadd O d_Mod_uppers_34 ?_
          refine zi_iret O d_Mod_uppers_35 (Nat.le_of_ble_eq_true rfl) (Nat.le_of_ble_eq_true rfl) (Nat.le_of_ble_eq_true rfl) ?_
          exact ⟨by unfold ue; rw [a, show to_ e % 2 = 0 by omega], rfl⟩
        · exact absurd rfl c26
  · rw [zb_f a]
    refine zi_if_eq O 16 d_Mod_uppers_9 (by decide) (fun c9 => ?_) (fun c9 => ?_)
    · refine zi_iconstN O 0 d_Mod_uppers_16 (by decide) ?_
      refine zi_aload_n O d_Mod_uppers_17 rfl ?_
      refine zi_iload_n O d_Mod_uppers_18 rfl ?_
      refine zi_iconstN O 0 d_Mod_uppers_19 (by decide) ?_
      refine zi_selfP O c_Mod_66 k_Mod_placeOf (m_Mod_to hR hG h he) d_Mod_uppers_20 ⟨(Nat.le_of_ble_eq_true rfl), (Nat.le_of_ble_eq_true rfl)⟩ ⟨(Nat.le_of_ble_eq_true rfl), (Nat.le_of_ble_eq_true rfl)⟩ rfl rfl (Nat.le_of_ble_eq_true rfl) rfl rfl rfl (Nat.le_of_ble_eq_true rfl) rfl ?_
      refine zi_pureS O [] c_Mod_160 k_Mod_isUpper (m_Mod_isUpper (to_ e) (by omega)) d_Mod_uppers_23 ⟨(Nat.le_of_ble_eq_true rfl), (Nat.le_of_ble_eq_true rfl)⟩ ⟨(Nat.le_of_ble_eq_true rfl), (Nat.le_of_ble_eq_true rfl)⟩ rfl (Nat.le_of_ble_eq_true rfl) rfl rfl rfl rfl rfl (Nat.le_of_ble_eq_true rfl) rfl ?_
      by_cases b : to_ e % 2 = 1
      · rw [zb_t b]
        refine zi_if_eq O 33 d_Mod_uppers_26 (by decide) (fun c26 => ?_) (fun c26 => ?_)
        · exact absurd c26 (by decide)
        · refine zi_iconstN O 1 d_Mod_uppers_29 (by decide) ?_
          refine zi_goto O 34 d_Mod_uppers_30 (by decide) ?_
          first | refine zi_iaddN O d_Mod_uppers_34 ?_ | refine zi_iadd O d_Mod_uppers_34 ?_
          refine zi_iret O d_Mod_uppers_35 (Nat.le_of_ble_eq_true rfl) (Nat.le_of_ble_eq_true rfl) (Nat.le_of_ble_eq_true rfl) ?_
          exact ⟨by unfold ue; rw [b, show fr e % 2 = 0 by omega], rfl⟩
      · rw [zb_f b]
        refine zi_if_eq O 33 d_Mod_uppers_26 (by decide) (fun c26 => ?_) (fun c26 => ?_)
        · refine zi_iconstN O 0 d_Mod_uppers_33 (by decide) ?_
          first | refine zi_iaddN O d_Mod_uppers_34 ?_ | refine zi_iadd O d_Mod_uppers_34 ?_
          refine zi_iret O d_Mod_uppers_35 (Nat.le_of_ble_eq_true rfl) (Nat.le_of_ble_eq_true rfl) (Nat.le_of_ble_eq_true rfl) ?_
          exact ⟨by unfold ue; rw [show fr e % 2 = 0 by omega, show to_ e % 2 = 0 by omega], rfl⟩
        · exact absurd rfl c26
    · exact absurd rfl c9
theorem m_Mod_corner {lab el fr to_ at_ : Nat → Nat} (hR : RowOK n L lab) (hG : Sg n S) (h : Ed n lab S el fr to_ at_) {d : Nat} (hd : d < 4 * n) : zPu y_Mod_corner b_Mod_corner 2 (some .int) ⟨2, 0, 0, 50⟩ [.ref 0, .int (nI (dl el d))] (mh put wrong pS pL n ci oN oC S L oS oL labs row fresh piece closed faces comp fof sides side free arnd) (.int (nI (ca fr to_ d))) := by
  have hn := hR.1
  have hdl := dl_lt hR h hd
  have h1 := ar_lt h hd
  refine zMet_of (plainFor_of_name (by decide +kernel)) rfl (Nat.le_of_ble_eq_true rfl) (fun z1 z2 z3 z4 z5 z6 z7 z8 z9 z10 z11 z12 z13 z14 O hin => ?_)
  refine zi_ls (ls' := [some (.ref 0), some (.int (nI (dl el d)))]) rfl ?_
  refine zi_aload_n O d_Mod_corner_0 rfl ?_
  refine zi_iload_n O d_Mod_corner_1 rfl ?_
  refine zi_iconstN O 2 d_Mod_corner_2 (by decide) ?_
  refine zi_idivN O d_Mod_corner_3 (by omega) (by omega) (by omega) ?_
  refine zi_iload_n O d_Mod_corner_4 rfl ?_
  refine zi_iconstN O 2 d_Mod_corner_5 (by decide) ?_
  refine zi_iremN O d_Mod_corner_6 (by omega) (by omega) (by omega) ?_
  refine zi_iconstN O 1 d_Mod_corner_7 (by decide) ?_
  refine zi_icmp_neN O 15 d_Mod_corner_8 (by decide) (by omega) (by omega) (fun c8 => ?_) (fun c8 => ?_)
  · refine zi_iconstN O 0 d_Mod_corner_15 (by decide) ?_
    rw [dl_div]
    rw [dl_mod] at c8
    refine zi_selfP O c_Mod_66 k_Mod_placeOf (m_Mod_to hR hG h (by omega)) d_Mod_corner_16 ⟨(Nat.le_of_ble_eq_true rfl), (Nat.le_of_ble_eq_true rfl)⟩ ⟨(Nat.le_of_ble_eq_true rfl), (Nat.le_of_ble_eq_true rfl)⟩ rfl rfl (Nat.le_of_ble_eq_true rfl) rfl rfl rfl (Nat.le_of_ble_eq_true rfl) rfl ?_
    rw [show to_ (d / 2) = ar fr to_ d by unfold ar; rw [if_pos (by omega)]]
    refine zi_iconstN O 4 d_Mod_corner_19 (by decide) ?_
    refine zi_idivN O d_Mod_corner_20 (by omega) (by omega) (by omega) ?_
    refine zi_iret O d_Mod_corner_21 (Nat.le_of_ble_eq_true rfl) (Nat.le_of_ble_eq_true rfl) (Nat.le_of_ble_eq_true rfl) ?_
    exact ⟨rfl, rfl⟩
  · refine zi_iconstN O 1 d_Mod_corner_11 (by decide) ?_
    refine zi_goto O 16 d_Mod_corner_12 (by decide) ?_
    rw [dl_div]
    rw [dl_mod] at c8
    refine zi_selfP O c_Mod_66 k_Mod_placeOf (m_Mod_fr hR hG h (by omega)) d_Mod_corner_16 ⟨(Nat.le_of_ble_eq_true rfl), (Nat.le_of_ble_eq_true rfl)⟩ ⟨(Nat.le_of_ble_eq_true rfl), (Nat.le_of_ble_eq_true rfl)⟩ rfl rfl (Nat.le_of_ble_eq_true rfl) rfl rfl rfl (Nat.le_of_ble_eq_true rfl) rfl ?_
    rw [show fr (d / 2) = ar fr to_ d by unfold ar; rw [if_neg (by omega)]]
    refine zi_iconstN O 4 d_Mod_corner_19 (by decide) ?_
    refine zi_idivN O d_Mod_corner_20 (by omega) (by omega) (by omega) ?_
    refine zi_iret O d_Mod_corner_21 (Nat.le_of_ble_eq_true rfl) (Nat.le_of_ble_eq_true rfl) (Nat.le_of_ble_eq_true rfl) ?_
    exact ⟨rfl, rfl⟩
theorem m_Mod_pattern_no {lab el fr to_ at_ : Nat → Nat} (hR : RowOK n L lab) (hG : Sg n S) (h : Ed n lab S el fr to_ at_) (x : Int32) (hx : ¬ (0 ≤ x ∧ x < nI (FF (nxD fr to_ at_) (4 * n) (4 * n)).2)) : zMet y_Mod_pattern b_Mod_pattern 7 (some .int) ⟨5, 0, 0, 140⟩ [.ref 0, .int x] (mh put wrong pS pL n ci oN oC S L oS oL labs row fresh piece closed faces comp fof sides side free arnd)
    (fun r h' => r = some (.int (-1)) ∧ ∃ (row' fof' : Nat → Int32), h' = (mh put wrong pS pL n ci oN oC S L oS oL (2 * n) row' fresh piece closed ((FF (nxD fr to_ at_) (4 * n) (4 * n)).2) comp fof' 0 side free arnd)) := by
  refine zMet_of (plainFor_of_name (by decide +kernel)) rfl (Nat.le_of_ble_eq_true rfl) (fun z1 z2 z3 z4 z5 z6 z7 z8 z9 z10 z11 z12 z13 z14 O hin => ?_)
  refine zi_ls (ls' := [some (.ref 0), some (.int x), none, none, none, none, none]) rfl ?_
  refine zi_aload_n O d_Mod_pattern_0 rfl ?_
  refine zi_iload_n O d_Mod_pattern_1 rfl ?_
  refine zi_selfV O c_Mod_157 k_Mod_findSides (m_Mod_findSides_no hR hG h x hx) d_Mod_pattern_2 ⟨(Nat.le_of_ble_eq_true rfl), (Nat.le_of_ble_eq_true rfl)⟩ ⟨(Nat.le_of_ble_eq_true rfl), (Nat.le_of_ble_eq_true rfl)⟩ rfl rfl (Nat.le_of_ble_eq_true rfl) rfl rfl rfl (Nat.le_of_ble_eq_true rfl) rfl (fun r h' hq hl => ?_)
  obtain ⟨rfl, row', fof', rfl⟩ := hq
  refine zi_st (st' := [.int (nI 0)]) rfl ?_
  refine zi_if_ne O 10 d_Mod_pattern_5 (by decide) (fun c5 => ?_) (fun c5 => ?_)
  · exact absurd rfl c5
  · refine zi_iconst (v := -1) O d_Mod_pattern_8 (by decide) ?_
    refine zi_iret O d_Mod_pattern_9 (Nat.le_of_ble_eq_true rfl) (Nat.le_of_ble_eq_true rfl) (Nat.le_of_ble_eq_true rfl) ?_
    exact ⟨rfl, row', fof', rfl⟩
set_option maxHeartbeats 2000000 in
theorem m_Mod_pattern {lab el fr to_ at_ : Nat → Nat} (hR : RowOK n L lab) (hG : Sg n S) (h : Ed n lab S el fr to_ at_) {k l t : Nat} (hk : k < (FF (nxD fr to_ at_) (4 * n) (4 * n)).2) (hF : FaceK n (nxD fr to_ at_) k l t) : zMet y_Mod_pattern b_Mod_pattern 7 (some .int) ⟨5, 0, 0, 140⟩ [.ref 0, .int (nI k)] (mh put wrong pS pL n ci oN oC S L oS oL labs row fresh piece closed faces comp fof sides side free arnd)
    (fun r h' => r = some (.int (nI (pat fr to_ (nxD fr to_ at_) l t))) ∧ ∃ (row' fof' side' : Nat → Int32), h' = (mh put wrong pS pL n ci oN oC S L oS oL (2 * n) row' fresh piece closed ((FF (nxD fr to_ at_) (4 * n) (4 * n)).2) comp fof' t side' free arnd) ∧ ∀ i, i < t → side' i = nI (dl el (it (nxD fr to_ at_) i l))) := by
  have hn := hR.1
  have ht := face_le hn h hk hF
  have hl0 := hF.1
  have hp := perm_D h
  have hl1 := hp.1 _ hl0
  have hl2 := hp.1 _ hl1
  have hca : ∀ d, d < 4 * n → ca fr to_ d < 20 := fun d hd => by
    have := ar_lt h hd
    unfold ca
    omega
  have a0 := hca _ hl0
  have a1 := hca _ hl1
  have a2 := hca _ hl2
  have d0 := dl_lt hR h hl0
  have d1 := dl_lt hR h hl1
  have d2 := dl_lt hR h hl2
  have u0 := ue_le fr to_ (l / 2)
  have u1 := ue_le fr to_ (nxD fr to_ at_ l / 2)
  have u2 := ue_le fr to_ (nxD fr to_ at_ (nxD fr to_ at_ l) / 2)
  refine zMet_of (plainFor_of_name (by decide +kernel)) rfl (Nat.le_of_ble_eq_true rfl) (fun z1 z2 z3 z4 z5 z6 z7 z8 z9 z10 z11 z12 z13 z14 O hin => ?_)
  refine zi_ls (ls' := [some (.ref 0), some (.int (nI k)), none, none, none, none, none]) rfl ?_
  refine zi_aload_n O d_Mod_pattern_0 rfl ?_
  refine zi_iload_n O d_Mod_pattern_1 rfl ?_
  refine zi_selfV O c_Mod_157 k_Mod_findSides (m_Mod_findSides hR hG h hk hF ht) d_Mod_pattern_2 ⟨(Nat.le_of_ble_eq_true rfl), (Nat.le_of_ble_eq_true rfl)⟩ ⟨(Nat.le_of_ble_eq_true rfl), (Nat.le_of_ble_eq_true rfl)⟩ rfl rfl (Nat.le_of_ble_eq_true rfl) rfl rfl rfl (Nat.le_of_ble_eq_true rfl) rfl (fun r h' hq hl => ?_)
  obtain ⟨rfl, row', fof', side', rfl, hsd⟩ := hq
  refine zi_st (st' := [.int (nI 1)]) rfl ?_
  refine zi_if_ne O 10 d_Mod_pattern_5 (by decide) (fun c5 => ?_) (fun c5 => ?_)
  · have tail0 : t ≠ 3 → ∀ {ls2 : Value}, pat fr to_ (nxD fr to_ at_) l t = 0 → zG z1 z2 z3 z4 z5 z6 z7 z8 z9 z10 z11 z12 z13 z14 15 7 (fun r h' => r = some (.int (nI (pat fr to_ (nxD fr to_ at_) l t))) ∧ ∃ (row' fof' side' : Nat → Int32), h' = (mh put wrong pS pL n ci oN oC S L oS oL (2 * n) row' fresh piece closed ((FF (nxD fr to_ at_) (4 * n) (4 * n)).2) comp fof' t side' free arnd) ∧ ∀ i, i < t → side' i = nI (dl el (it (nxD fr to_ at_) i l))) 0 0 0 0 129 [some (.ref 0), some (.int (nI k)), some (.int (nI 0)), none, none, none, none] [] (mh put wrong pS pL n ci oN oC S L oS oL (2 * n) row' fresh piece closed ((FF (nxD fr to_ at_) (4 * n) (4 * n)).2) comp fof' t side' free arnd) := by
      intro h3 _ hpt
      rw [hpt]
      refine zi_aload_n O d_Mod_pattern_129 rfl ?_
      refine zi_get O f_Mod_154 d_Mod_pattern_130 rfl rfl ?_
      refine zi_iconstN O 3 d_Mod_pattern_133 (by decide) ?_
      refine zi_icmp_neN O 210 d_Mod_pattern_134 (by decide) (by omega) (by omega) (fun c134 => ?_) (fun c134 => ?_)
      · refine zi_iconstN O 0 d_Mod_pattern_210 (by decide) ?_
        refine zi_istore_n (ls' := _ :: _ :: _ :: some _ :: _) O d_Mod_pattern_211 rfl (by decide) rfl ?_
        refine zi_iload_n O d_Mod_pattern_212 rfl ?_
        refine zi_if_ne O 218 d_Mod_pattern_213 (by decide) (fun c213 => ?_) (fun c213 => ?_)
        · exact absurd rfl c213
        · refine zi_iconstN O 0 d_Mod_pattern_216 (by decide) ?_
          refine zi_iret O d_Mod_pattern_217 (Nat.le_of_ble_eq_true rfl) (Nat.le_of_ble_eq_true rfl) (Nat.le_of_ble_eq_true rfl) ?_
          exact ⟨rfl, row', fof', side', rfl, hsd⟩
      · omega
    refine zi_aload_n O d_Mod_pattern_10 rfl ?_
    refine zi_get O f_Mod_154 d_Mod_pattern_11 rfl rfl ?_
    refine zi_iconstN O 1 d_Mod_pattern_14 (by decide) ?_
    refine zi_icmp_neN O 20 d_Mod_pattern_15 (by decide) (by omega) (by omega) (fun c15 => ?_) (fun c15 => ?_)
    · refine zi_aload_n O d_Mod_pattern_20 rfl ?_
      refine zi_get O f_Mod_154 d_Mod_pattern_21 rfl rfl ?_
      refine zi_iconstN O 2 d_Mod_pattern_24 (by decide) ?_
      refine zi_icmp_neN O 55 d_Mod_pattern_25 (by decide) (by omega) (by omega) (fun c25 => ?_) (fun c25 => ?_)
      · refine zi_iconstN O 0 d_Mod_pattern_55 (by decide) ?_
        refine zi_istore_n (ls' := _ :: _ :: some _ :: _) O d_Mod_pattern_56 rfl (by decide) rfl ?_
        refine zi_iload_n O d_Mod_pattern_57 rfl ?_
        refine zi_if_eq O 129 d_Mod_pattern_58 (by decide) (fun c58 => ?_) (fun c58 => ?_)
        · by_cases c3 : t = 3
          · subst c3
            have hp3 : pat fr to_ (nxD fr to_ at_) l 3 = if isTri fr to_ l (nxD fr to_ at_ l) (nxD fr to_ at_ (nxD fr to_ at_ l)) then 3 else 0 := by
              unfold pat
              rw [if_neg (by omega), if_neg (by omega), if_pos rfl]
            have e0 := hsd 0 (by omega)
            have e1 := hsd 1 (by omega)
            have e2 := hsd 2 (by omega)
            simp only [it] at e0 e1 e2
            have no : ¬ isTri fr to_ l (nxD fr to_ at_ l) (nxD fr to_ at_ (nxD fr to_ at_ l)) → zG z1 z2 z3 z4 z5 z6 z7 z8 z9 z10 z11 z12 z13 z14 15 7 (fun r h' => r = some (.int (nI (pat fr to_ (nxD fr to_ at_) l 3))) ∧ ∃ (row' fof' side' : Nat → Int32), h' = (mh put wrong pS pL n ci oN oC S L oS oL (2 * n) row' fresh piece closed ((FF (nxD fr to_ at_) (4 * n) (4 * n)).2) comp fof' 3 side' free arnd) ∧ ∀ i, i < 3 → side' i = nI (dl el (it (nxD fr to_ at_) i l))) 0 0 0 0 210 [some (.ref 0), some (.int (nI k)), some (.int (nI 0)), none, none, none, none] [] (mh put wrong pS pL n ci oN oC S L oS oL (2 * n) row' fresh piece closed ((FF (nxD fr to_ at_) (4 * n) (4 * n)).2) comp fof' 3 side' free arnd) := by
              intro hno
              rw [hp3, if_neg hno]
              refine zi_iconstN O 0 d_Mod_pattern_210 (by decide) ?_
              refine zi_istore_n (ls' := _ :: _ :: _ :: some _ :: _) O d_Mod_pattern_211 rfl (by decide) rfl ?_
              refine zi_iload_n O d_Mod_pattern_212 rfl ?_
              refine zi_if_ne O 218 d_Mod_pattern_213 (by decide) (fun c213 => ?_) (fun c213 => ?_)
              · exact absurd rfl c213
              · refine zi_iconstN O 0 d_Mod_pattern_216 (by decide) ?_
                refine zi_iret O d_Mod_pattern_217 (Nat.le_of_ble_eq_true rfl) (Nat.le_of_ble_eq_true rfl) (Nat.le_of_ble_eq_true rfl) ?_
                exact ⟨rfl, row', fof', side', rfl, hsd⟩
            refine zi_aload_n O d_Mod_pattern_129 rfl ?_
            refine zi_get O f_Mod_154 d_Mod_pattern_130 rfl rfl ?_
            refine zi_iconstN O 3 d_Mod_pattern_133 (by decide) ?_
            refine zi_icmp_neN O 210 d_Mod_pattern_134 (by decide) (by omega) (by omega) (fun c134 => ?_) (fun c134 => ?_)
            · omega
            · refine zi_aload_n O d_Mod_pattern_137 rfl ?_
              refine zi_aload_n O d_Mod_pattern_138 rfl ?_
              refine zi_get O f_Mod_47 d_Mod_pattern_139 rfl rfl ?_
              refine zi_iconstN O 0 d_Mod_pattern_142 (by decide) ?_
              refine zi_iald O d_Mod_pattern_143 rfl rfl (by omega) (Nat.le_of_ble_eq_true rfl) ?_
              rw [e0]
              refine zi_selfP O c_Mod_163 k_Mod_corner (m_Mod_corner hR hG h hl0) d_Mod_pattern_144 ⟨(Nat.le_of_ble_eq_true rfl), (Nat.le_of_ble_eq_true rfl)⟩ ⟨(Nat.le_of_ble_eq_true rfl), (Nat.le_of_ble_eq_true rfl)⟩ rfl rfl (Nat.le_of_ble_eq_true rfl) rfl rfl rfl (Nat.le_of_ble_eq_true rfl) rfl ?_
              refine zi_aload_n O d_Mod_pattern_147 rfl ?_
              refine zi_aload_n O d_Mod_pattern_148 rfl ?_
              refine zi_get O f_Mod_47 d_Mod_pattern_149 rfl rfl ?_
              refine zi_iconstN O 1 d_Mod_pattern_152 (by decide) ?_
              refine zi_iald O d_Mod_pattern_153 rfl rfl (by omega) (Nat.le_of_ble_eq_true rfl) ?_
              rw [e1]
              refine zi_selfP O c_Mod_163 k_Mod_corner (m_Mod_corner hR hG h hl1) d_Mod_pattern_154 ⟨(Nat.le_of_ble_eq_true rfl), (Nat.le_of_ble_eq_true rfl)⟩ ⟨(Nat.le_of_ble_eq_true rfl), (Nat.le_of_ble_eq_true rfl)⟩ rfl rfl (Nat.le_of_ble_eq_true rfl) rfl rfl rfl (Nat.le_of_ble_eq_true rfl) rfl ?_
              refine zi_icmp_eqN O 210 d_Mod_pattern_157 (by decide) (by omega) (by omega) (fun c157 => ?_) (fun c157 => ?_)
              · exact no (fun z => z.1.1 c157)
              · refine zi_aload_n O d_Mod_pattern_160 rfl ?_
                refine zi_aload_n O d_Mod_pattern_161 rfl ?_
                refine zi_get O f_Mod_47 d_Mod_pattern_162 rfl rfl ?_
                refine zi_iconstN O 1 d_Mod_pattern_165 (by decide) ?_
                refine zi_iald O d_Mod_pattern_166 rfl rfl (by omega) (Nat.le_of_ble_eq_true rfl) ?_
                rw [e1]
                refine zi_selfP O c_Mod_163 k_Mod_corner (m_Mod_corner hR hG h hl1) d_Mod_pattern_167 ⟨(Nat.le_of_ble_eq_true rfl), (Nat.le_of_ble_eq_true rfl)⟩ ⟨(Nat.le_of_ble_eq_true rfl), (Nat.le_of_ble_eq_true rfl)⟩ rfl rfl (Nat.le_of_ble_eq_true rfl) rfl rfl rfl (Nat.le_of_ble_eq_true rfl) rfl ?_
                refine zi_aload_n O d_Mod_pattern_170 rfl ?_
                refine zi_aload_n O d_Mod_pattern_171 rfl ?_
                refine zi_get O f_Mod_47 d_Mod_pattern_172 rfl rfl ?_
                refine zi_iconstN O 2 d_Mod_pattern_175 (by decide) ?_
                refine zi_iald O d_Mod_pattern_176 rfl rfl (by omega) (Nat.le_of_ble_eq_true rfl) ?_
                rw [e2]
                refine zi_selfP O c_Mod_163 k_Mod_corner (m_Mod_corner hR hG h hl2) d_Mod_pattern_177 ⟨(Nat.le_of_ble_eq_true rfl), (Nat.le_of_ble_eq_true rfl)⟩ ⟨(Nat.le_of_ble_eq_true rfl), (Nat.le_of_ble_eq_true rfl)⟩ rfl rfl (Nat.le_of_ble_eq_true rfl) rfl rfl rfl (Nat.le_of_ble_eq_true rfl) rfl ?_
                refine zi_icmp_eqN O 210 d_Mod_pattern_180 (by decide) (by omega) (by omega) (fun c180 => ?_) (fun c180 => ?_)
                · exact no (fun z => z.1.2.1 c180)
                · refine zi_aload_n O d_Mod_pattern_183 rfl ?_
                  refine zi_aload_n O d_Mod_pattern_184 rfl ?_
                  refine zi_get O f_Mod_47 d_Mod_pattern_185 rfl rfl ?_
                  refine zi_iconstN O 0 d_Mod_pattern_188 (by decide) ?_
                  refine zi_iald O d_Mod_pattern_189 rfl rfl (by omega) (Nat.le_of_ble_eq_true rfl) ?_
                  rw [e0]
                  refine zi_selfP O c_Mod_163 k_Mod_corner (m_Mod_corner hR hG h hl0) d_Mod_pattern_190 ⟨(Nat.le_of_ble_eq_true rfl), (Nat.le_of_ble_eq_true rfl)⟩ ⟨(Nat.le_of_ble_eq_true rfl), (Nat.le_of_ble_eq_true rfl)⟩ rfl rfl (Nat.le_of_ble_eq_true rfl) rfl rfl rfl (Nat.le_of_ble_eq_true rfl) rfl ?_
                  refine zi_aload_n O d_Mod_pattern_193 rfl ?_
                  refine zi_aload_n O d_Mod_pattern_194 rfl ?_
                  refine zi_get O f_Mod_47 d_Mod_pattern_195 rfl rfl ?_
                  refine zi_iconstN O 2 d_Mod_pattern_198 (by decide) ?_
                  refine zi_iald O d_Mod_pattern_199 rfl rfl (by omega) (Nat.le_of_ble_eq_true rfl) ?_
                  rw [e2]
                  refine zi_selfP O c_Mod_163 k_Mod_corner (m_Mod_corner hR hG h hl2) d_Mod_pattern_200 ⟨(Nat.le_of_ble_eq_true rfl), (Nat.le_of_ble_eq_true rfl)⟩ ⟨(Nat.le_of_ble_eq_true rfl), (Nat.le_of_ble_eq_true rfl)⟩ rfl rfl (Nat.le_of_ble_eq_true rfl) rfl rfl rfl (Nat.le_of_ble_eq_true rfl) rfl ?_
                  refine zi_icmp_eqN O 210 d_Mod_pattern_203 (by decide) (by omega) (by omega) (fun c203 => ?_) (fun c203 => ?_)
                  · exact no (fun z => z.1.2.2 c203)
                  · rw [hp3]
                    refine zi_iconstN O 1 d_Mod_pattern_206 (by decide) ?_
                    refine zi_goto O 211 d_Mod_pattern_207 (by decide) ?_
                    refine zi_istore_n (ls' := _ :: _ :: _ :: some _ :: _) O d_Mod_pattern_211 rfl (by decide) rfl ?_
                    refine zi_iload_n O d_Mod_pattern_212 rfl ?_
                    refine zi_if_ne O 218 d_Mod_pattern_213 (by decide) (fun c213 => ?_) (fun c213 => ?_)
                    · refine zi_aload_n O d_Mod_pattern_218 rfl ?_
                      refine zi_aload_n O d_Mod_pattern_219 rfl ?_
                      refine zi_get O f_Mod_47 d_Mod_pattern_220 rfl rfl ?_
                      refine zi_iconstN O 0 d_Mod_pattern_223 (by decide) ?_
                      refine zi_iald O d_Mod_pattern_224 rfl rfl (by omega) (Nat.le_of_ble_eq_true rfl) ?_
                      rw [e0]
                      refine zi_iconstN O 2 d_Mod_pattern_225 (by decide) ?_
                      refine zi_idivN O d_Mod_pattern_226 (by omega) (by omega) (by omega) ?_
                      rw [dl_div]
                      refine zi_selfP O c_Mod_166 k_Mod_uppers (m_Mod_uppers hR hG h (by omega)) d_Mod_pattern_227 ⟨(Nat.le_of_ble_eq_true rfl), (Nat.le_of_ble_eq_true rfl)⟩ ⟨(Nat.le_of_ble_eq_true rfl), (Nat.le_of_ble_eq_true rfl)⟩ rfl rfl (Nat.le_of_ble_eq_true rfl) rfl rfl rfl (Nat.le_of_ble_eq_true rfl) rfl ?_
                      refine zi_istore (ls' := _ :: _ :: _ :: _ :: some _ :: _) O d_Mod_pattern_230 rfl (by decide) rfl ?_
                      refine zi_aload_n O d_Mod_pattern_232 rfl ?_
                      refine zi_aload_n O d_Mod_pattern_233 rfl ?_
                      refine zi_get O f_Mod_47 d_Mod_pattern_234 rfl rfl ?_
                      refine zi_iconstN O 1 d_Mod_pattern_237 (by decide) ?_
                      refine zi_iald O d_Mod_pattern_238 rfl rfl (by omega) (Nat.le_of_ble_eq_true rfl) ?_
                      rw [e1]
                      refine zi_iconstN O 2 d_Mod_pattern_239 (by decide) ?_
                      refine zi_idivN O d_Mod_pattern_240 (by omega) (by omega) (by omega) ?_
                      rw [dl_div]
                      refine zi_selfP O c_Mod_166 k_Mod_uppers (m_Mod_uppers hR hG h (by omega)) d_Mod_pattern_241 ⟨(Nat.le_of_ble_eq_true rfl), (Nat.le_of_ble_eq_true rfl)⟩ ⟨(Nat.le_of_ble_eq_true rfl), (Nat.le_of_ble_eq_true rfl)⟩ rfl rfl (Nat.le_of_ble_eq_true rfl) rfl rfl rfl (Nat.le_of_ble_eq_true rfl) rfl ?_
                      refine zi_istore (ls' := _ :: _ :: _ :: _ :: _ :: some _ :: _) O d_Mod_pattern_244 rfl (by decide) rfl ?_
                      refine zi_aload_n O d_Mod_pattern_246 rfl ?_
                      refine zi_aload_n O d_Mod_pattern_247 rfl ?_
                      refine zi_get O f_Mod_47 d_Mod_pattern_248 rfl rfl ?_
                      refine zi_iconstN O 2 d_Mod_pattern_251 (by decide) ?_
                      refine zi_iald O d_Mod_pattern_252 rfl rfl (by omega) (Nat.le_of_ble_eq_true rfl) ?_
                      rw [e2]
                      refine zi_iconstN O 2 d_Mod_pattern_253 (by decide) ?_
                      refine zi_idivN O d_Mod_pattern_254 (by omega) (by omega) (by omega) ?_
                      rw [dl_div]
                      refine zi_selfP O c_Mod_166 k_Mod_uppers (m_Mod_uppers hR hG h (by omega)) d_Mod_pattern_255 ⟨(Nat.le_of_ble_eq_true rfl), (Nat.le_of_ble_eq_true rfl)⟩ ⟨(Nat.le_of_ble_eq_true rfl), (Nat.le_of_ble_eq_true rfl)⟩ rfl rfl (Nat.le_of_ble_eq_true rfl) rfl rfl rfl (Nat.le_of_ble_eq_true rfl) rfl ?_
                      refine zi_istore (ls' := _ :: _ :: _ :: _ :: _ :: _ :: some _ :: _) O d_Mod_pattern_258 rfl (by decide) rfl ?_
                      refine zi_iload O d_Mod_pattern_260 rfl ?_
                      refine zi_iload O d_Mod_pattern_262 rfl ?_
                      refine zi_icmp_eqN O 285 d_Mod_pattern_264 (by decide) (by omega) (by omega) (fun c264 => ?_) (fun c264 => ?_)
                      · refine zi_iconstN O 0 d_Mod_pattern_285 (by decide) ?_
                        refine zi_iret O d_Mod_pattern_286 (Nat.le_of_ble_eq_true rfl) (Nat.le_of_ble_eq_true rfl) (Nat.le_of_ble_eq_true rfl) ?_
                        exact ⟨by rw [if_neg (fun z => z.2.1 c264)], row', fof', side', rfl, hsd⟩
                      · refine zi_iload O d_Mod_pattern_267 rfl ?_
                        refine zi_iload O d_Mod_pattern_269 rfl ?_
                        refine zi_icmp_eqN O 285 d_Mod_pattern_271 (by decide) (by omega) (by omega) (fun c271 => ?_) (fun c271 => ?_)
                        · refine zi_iconstN O 0 d_Mod_pattern_285 (by decide) ?_
                          refine zi_iret O d_Mod_pattern_286 (Nat.le_of_ble_eq_true rfl) (Nat.le_of_ble_eq_true rfl) (Nat.le_of_ble_eq_true rfl) ?_
                          exact ⟨by rw [if_neg (fun z => z.2.2.1 c271)], row', fof', side', rfl, hsd⟩
                        · refine zi_iload O d_Mod_pattern_274 rfl ?_
                          refine zi_iload O d_Mod_pattern_276 rfl ?_
                          refine zi_icmp_eqN O 285 d_Mod_pattern_278 (by decide) (by omega) (by omega) (fun c278 => ?_) (fun c278 => ?_)
                          · refine zi_iconstN O 0 d_Mod_pattern_285 (by decide) ?_
                            refine zi_iret O d_Mod_pattern_286 (Nat.le_of_ble_eq_true rfl) (Nat.le_of_ble_eq_true rfl) (Nat.le_of_ble_eq_true rfl) ?_
                            exact ⟨by rw [if_neg (fun z => z.2.2.2 c278)], row', fof', side', rfl, hsd⟩
                          · refine zi_iconstN O 3 d_Mod_pattern_281 (by decide) ?_
                            refine zi_goto O 286 d_Mod_pattern_282 (by decide) ?_
                            refine zi_iret O d_Mod_pattern_286 (Nat.le_of_ble_eq_true rfl) (Nat.le_of_ble_eq_true rfl) (Nat.le_of_ble_eq_true rfl) ?_
                            exact ⟨by rw [if_pos ⟨⟨c157, c180, c203⟩, c264, c271, c278⟩], row', fof', side', rfl, hsd⟩
                    · exact absurd c213 (by decide)
          · exact tail0 c3 (ls2 := .int 0) (by unfold pat; rw [if_neg c15, if_neg c25, if_neg c3])
        · exact absurd rfl c58
      · subst c25
        have hp2 : pat fr to_ (nxD fr to_ at_) l 2 = if isFin fr to_ l (nxD fr to_ at_ l) then 2 else 0 := by
          unfold pat
          rw [if_neg (by omega), if_pos rfl]
        have e0 := hsd 0 (by omega)
        have e1 := hsd 1 (by omega)
        simp only [it] at e0 e1
        refine zi_aload_n O d_Mod_pattern_28 rfl ?_
        refine zi_aload_n O d_Mod_pattern_29 rfl ?_
        refine zi_get O f_Mod_47 d_Mod_pattern_30 rfl rfl ?_
        refine zi_iconstN O 0 d_Mod_pattern_33 (by decide) ?_
        refine zi_iald O d_Mod_pattern_34 rfl rfl (by omega) (Nat.le_of_ble_eq_true rfl) ?_
        rw [e0]
        refine zi_selfP O c_Mod_163 k_Mod_corner (m_Mod_corner hR hG h hl0) d_Mod_pattern_35 ⟨(Nat.le_of_ble_eq_true rfl), (Nat.le_of_ble_eq_true rfl)⟩ ⟨(Nat.le_of_ble_eq_true rfl), (Nat.le_of_ble_eq_true rfl)⟩ rfl rfl (Nat.le_of_ble_eq_true rfl) rfl rfl rfl (Nat.le_of_ble_eq_true rfl) rfl ?_
        refine zi_aload_n O d_Mod_pattern_38 rfl ?_
        refine zi_aload_n O d_Mod_pattern_39 rfl ?_
        refine zi_get O f_Mod_47 d_Mod_pattern_40 rfl rfl ?_
        refine zi_iconstN O 1 d_Mod_pattern_43 (by decide) ?_
        refine zi_iald O d_Mod_pattern_44 rfl rfl (by omega) (Nat.le_of_ble_eq_true rfl) ?_
        rw [e1]
        refine zi_selfP O c_Mod_163 k_Mod_corner (m_Mod_corner hR hG h hl1) d_Mod_pattern_45 ⟨(Nat.le_of_ble_eq_true rfl), (Nat.le_of_ble_eq_true rfl)⟩ ⟨(Nat.le_of_ble_eq_true rfl), (Nat.le_of_ble_eq_true rfl)⟩ rfl rfl (Nat.le_of_ble_eq_true rfl) rfl rfl rfl (Nat.le_of_ble_eq_true rfl) rfl ?_
        refine zi_icmp_eqN O 55 d_Mod_pattern_48 (by decide) (by omega) (by omega) (fun c48 => ?_) (fun c48 => ?_)
        · refine zi_iconstN O 0 d_Mod_pattern_55 (by decide) ?_
          refine zi_istore_n (ls' := _ :: _ :: some _ :: _) O d_Mod_pattern_56 rfl (by decide) rfl ?_
          refine zi_iload_n O d_Mod_pattern_57 rfl ?_
          refine zi_if_eq O 129 d_Mod_pattern_58 (by decide) (fun c58 => ?_) (fun c58 => ?_)
          · exact tail0 (by decide) (ls2 := .int 0) (by rw [hp2, if_neg (fun z => z.1 c48)])
          · exact absurd rfl c58
        · refine zi_iconstN O 1 d_Mod_pattern_51 (by decide) ?_
          refine zi_goto O 56 d_Mod_pattern_52 (by decide) ?_
          refine zi_istore_n (ls' := _ :: _ :: some _ :: _) O d_Mod_pattern_56 rfl (by decide) rfl ?_
          refine zi_iload_n O d_Mod_pattern_57 rfl ?_
          refine zi_if_eq O 129 d_Mod_pattern_58 (by decide) (fun c58 => ?_) (fun c58 => ?_)
          · exact absurd c58 (by decide)
          · have yes : isFin fr to_ l (nxD fr to_ at_ l) → zG z1 z2 z3 z4 z5 z6 z7 z8 z9 z10 z11 z12 z13 z14 15 7 (fun r h' => r = some (.int (nI (pat fr to_ (nxD fr to_ at_) l 2))) ∧ ∃ (row' fof' side' : Nat → Int32), h' = (mh put wrong pS pL n ci oN oC S L oS oL (2 * n) row' fresh piece closed ((FF (nxD fr to_ at_) (4 * n) (4 * n)).2) comp fof' 2 side' free arnd) ∧ ∀ i, i < 2 → side' i = nI (dl el (it (nxD fr to_ at_) i l))) 0 0 0 0 123 [some (.ref 0), some (.int (nI k)), some (.int (nI 1)), none, none, none, none] [] (mh put wrong pS pL n ci oN oC S L oS oL (2 * n) row' fresh piece closed ((FF (nxD fr to_ at_) (4 * n) (4 * n)).2) comp fof' 2 side' free arnd) := by
              intro hy
              rw [hp2, if_pos hy]
              refine zi_iconstN O 2 d_Mod_pattern_123 (by decide) ?_
              refine zi_goto O 128 d_Mod_pattern_124 (by decide) ?_
              refine zi_iret O d_Mod_pattern_128 (Nat.le_of_ble_eq_true rfl) (Nat.le_of_ble_eq_true rfl) (Nat.le_of_ble_eq_true rfl) ?_
              exact ⟨rfl, row', fof', side', rfl, hsd⟩
            have no : ¬ isFin fr to_ l (nxD fr to_ at_ l) → zG z1 z2 z3 z4 z5 z6 z7 z8 z9 z10 z11 z12 z13 z14 15 7 (fun r h' => r = some (.int (nI (pat fr to_ (nxD fr to_ at_) l 2))) ∧ ∃ (row' fof' side' : Nat → Int32), h' = (mh put wrong pS pL n ci oN oC S L oS oL (2 * n) row' fresh piece closed ((FF (nxD fr to_ at_) (4 * n) (4 * n)).2) comp fof' 2 side' free arnd) ∧ ∀ i, i < 2 → side' i = nI (dl el (it (nxD fr to_ at_) i l))) 0 0 0 0 127 [some (.ref 0), some (.int (nI k)), some (.int (nI 1)), none, none, none, none] [] (mh put wrong pS pL n ci oN oC S L oS oL (2 * n) row' fresh piece closed ((FF (nxD fr to_ at_) (4 * n) (4 * n)).2) comp fof' 2 side' free arnd) := by
              intro hy
              rw [hp2, if_neg hy]
              refine zi_iconstN O 0 d_Mod_pattern_127 (by decide) ?_
              refine zi_iret O d_Mod_pattern_128 (Nat.le_of_ble_eq_true rfl) (Nat.le_of_ble_eq_true rfl) (Nat.le_of_ble_eq_true rfl) ?_
              exact ⟨rfl, row', fof', side', rfl, hsd⟩
            have mid : ¬ (ue fr to_ (l / 2) = 2 ∧ ue fr to_ (nxD fr to_ at_ l / 2) = 0) → zG z1 z2 z3 z4 z5 z6 z7 z8 z9 z10 z11 z12 z13 z14 15 7 (fun r h' => r = some (.int (nI (pat fr to_ (nxD fr to_ at_) l 2))) ∧ ∃ (row' fof' side' : Nat → Int32), h' = (mh put wrong pS pL n ci oN oC S L oS oL (2 * n) row' fresh piece closed ((FF (nxD fr to_ at_) (4 * n) (4 * n)).2) comp fof' 2 side' free arnd) ∧ ∀ i, i < 2 → side' i = nI (dl el (it (nxD fr to_ at_) i l))) 0 0 0 0 92 [some (.ref 0), some (.int (nI k)), some (.int (nI 1)), none, none, none, none] [] (mh put wrong pS pL n ci oN oC S L oS oL (2 * n) row' fresh piece closed ((FF (nxD fr to_ at_) (4 * n) (4 * n)).2) comp fof' 2 side' free arnd) := by
              intro hm
              refine zi_aload_n O d_Mod_pattern_92 rfl ?_
              refine zi_aload_n O d_Mod_pattern_93 rfl ?_
              refine zi_get O f_Mod_47 d_Mod_pattern_94 rfl rfl ?_
              refine zi_iconstN O 0 d_Mod_pattern_97 (by decide) ?_
              refine zi_iald O d_Mod_pattern_98 rfl rfl (by omega) (Nat.le_of_ble_eq_true rfl) ?_
              rw [e0]
              refine zi_iconstN O 2 d_Mod_pattern_99 (by decide) ?_
              refine zi_idivN O d_Mod_pattern_100 (by omega) (by omega) (by omega) ?_
              rw [dl_div]
              refine zi_selfP O c_Mod_166 k_Mod_uppers (m_Mod_uppers hR hG h (by omega)) d_Mod_pattern_101 ⟨(Nat.le_of_ble_eq_true rfl), (Nat.le_of_ble_eq_true rfl)⟩ ⟨(Nat.le_of_ble_eq_true rfl), (Nat.le_of_ble_eq_true rfl)⟩ rfl rfl (Nat.le_of_ble_eq_true rfl) rfl rfl rfl (Nat.le_of_ble_eq_true rfl) rfl ?_
              refine zi_if_ne O 127 d_Mod_pattern_104 (by decide) (fun c104 => ?_) (fun c104 => ?_)
              · have c104' : ue fr to_ (l / 2) ≠ 0 := fun z => c104 (by rw [z]; rfl)
                exact no (fun z => hm (by have z2 := z.2.1; have z3 := z.2.2; omega))
              · have c104' : ue fr to_ (l / 2) = 0 := by
                  rcases Nat.eq_zero_or_pos (ue fr to_ (l / 2)) with z | z
                  · exact z
                  · exact absurd c104 (nI_ne0 z (by omega))
                refine zi_aload_n O d_Mod_pattern_107 rfl ?_
                refine zi_aload_n O d_Mod_pattern_108 rfl ?_
                refine zi_get O f_Mod_47 d_Mod_pattern_109 rfl rfl ?_
                refine zi_iconstN O 1 d_Mod_pattern_112 (by decide) ?_
                refine zi_iald O d_Mod_pattern_113 rfl rfl (by omega) (Nat.le_of_ble_eq_true rfl) ?_
                rw [e1]
                refine zi_iconstN O 2 d_Mod_pattern_114 (by decide) ?_
                refine zi_idivN O d_Mod_pattern_115 (by omega) (by omega) (by omega) ?_
                rw [dl_div]
                refine zi_selfP O c_Mod_166 k_Mod_uppers (m_Mod_uppers hR hG h (by omega)) d_Mod_pattern_116 ⟨(Nat.le_of_ble_eq_true rfl), (Nat.le_of_ble_eq_true rfl)⟩ ⟨(Nat.le_of_ble_eq_true rfl), (Nat.le_of_ble_eq_true rfl)⟩ rfl rfl (Nat.le_of_ble_eq_true rfl) rfl rfl rfl (Nat.le_of_ble_eq_true rfl) rfl ?_
                refine zi_iconstN O 2 d_Mod_pattern_119 (by decide) ?_
                refine zi_icmp_neN O 127 d_Mod_pattern_120 (by decide) (by omega) (by omega) (fun c120 => ?_) (fun c120 => ?_)
                · exact no (fun z => c120 (by have z3 := z.2.2; omega))
                · exact yes ⟨c48, by omega, by omega⟩
            refine zi_aload_n O d_Mod_pattern_61 rfl ?_
            refine zi_aload_n O d_Mod_pattern_62 rfl ?_
            refine zi_get O f_Mod_47 d_Mod_pattern_63 rfl rfl ?_
            refine zi_iconstN O 0 d_Mod_pattern_66 (by decide) ?_
            refine zi_iald O d_Mod_pattern_67 rfl rfl (by omega) (Nat.le_of_ble_eq_true rfl) ?_
            rw [e0]
            refine zi_iconstN O 2 d_Mod_pattern_68 (by decide) ?_
            refine zi_idivN O d_Mod_pattern_69 (by omega) (by omega) (by omega) ?_
            rw [dl_div]
            refine zi_selfP O c_Mod_166 k_Mod_uppers (m_Mod_uppers hR hG h (by omega)) d_Mod_pattern_70 ⟨(Nat.le_of_ble_eq_true rfl), (Nat.le_of_ble_eq_true rfl)⟩ ⟨(Nat.le_of_ble_eq_true rfl), (Nat.le_of_ble_eq_true rfl)⟩ rfl rfl (Nat.le_of_ble_eq_true rfl) rfl rfl rfl (Nat.le_of_ble_eq_true rfl) rfl ?_
            refine zi_iconstN O 2 d_Mod_pattern_73 (by decide) ?_
            refine zi_icmp_neN O 92 d_Mod_pattern_74 (by decide) (by omega) (by omega) (fun c74 => ?_) (fun c74 => ?_)
            · exact mid (fun z => c74 z.1)
            · refine zi_aload_n O d_Mod_pattern_77 rfl ?_
              refine zi_aload_n O d_Mod_pattern_78 rfl ?_
              refine zi_get O f_Mod_47 d_Mod_pattern_79 rfl rfl ?_
              refine zi_iconstN O 1 d_Mod_pattern_82 (by decide) ?_
              refine zi_iald O d_Mod_pattern_83 rfl rfl (by omega) (Nat.le_of_ble_eq_true rfl) ?_
              rw [e1]
              refine zi_iconstN O 2 d_Mod_pattern_84 (by decide) ?_
              refine zi_idivN O d_Mod_pattern_85 (by omega) (by omega) (by omega) ?_
              rw [dl_div]
              refine zi_selfP O c_Mod_166 k_Mod_uppers (m_Mod_uppers hR hG h (by omega)) d_Mod_pattern_86 ⟨(Nat.le_of_ble_eq_true rfl), (Nat.le_of_ble_eq_true rfl)⟩ ⟨(Nat.le_of_ble_eq_true rfl), (Nat.le_of_ble_eq_true rfl)⟩ rfl rfl (Nat.le_of_ble_eq_true rfl) rfl rfl rfl (Nat.le_of_ble_eq_true rfl) rfl ?_
              refine zi_if_eq O 123 d_Mod_pattern_89 (by decide) (fun c89 => ?_) (fun c89 => ?_)
              · have c89' : ue fr to_ (nxD fr to_ at_ l / 2) = 0 := by
                  rcases Nat.eq_zero_or_pos (ue fr to_ (nxD fr to_ at_ l / 2)) with z | z
                  · exact z
                  · exact absurd c89 (nI_ne0 z (by omega))
                exact yes ⟨c48, by omega, by omega⟩
              · exact mid (fun z => c89 (by rw [z.2]; rfl))
    · subst c15
      refine zi_iconstN O 1 d_Mod_pattern_18 (by decide) ?_
      refine zi_iret O d_Mod_pattern_19 (Nat.le_of_ble_eq_true rfl) (Nat.le_of_ble_eq_true rfl) (Nat.le_of_ble_eq_true rfl) ?_
      exact ⟨by unfold pat; rw [if_pos rfl], row', fof', side', rfl, hsd⟩
  · exact absurd c5 (by decide)
end
