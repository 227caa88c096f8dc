/-! Diagram.patternAt, leastFaceToUndo -/
section
variable {n : Nat} {lab : Nat → Nat} {S : Nat → Int32} {ci : Int32} {el fr to_ at_ oc : Nat → Nat} {h : List zE}
set_option maxHeartbeats 1000000 in
theorem m_Dia_patternAt (hD : Dia n lab S ci el fr to_ at_ oc h) (k l t : Nat) (hk : k < (FF (nxD fr to_ at_) (4 * n) (4 * n)).2) (hF : FaceK n (nxD fr to_ at_) k l t) : zPu y_Dia_patternAt b_Dia_patternAt 2 (some .int) ⟨3, 0, 0, 90⟩ [.ref 0, .int (nI k)] h (.int (nI (pat fr to_ (nxD fr to_ at_) l t))) := by
  have hD' := hD
  obtain ⟨L, PL, LB, FR, TO, AT, OF, RD, ST, OC, CE, SL, rfl, hR, hG, hz, hE, hA, hRd, hO, hP, hOF⟩ := hD
  have hn := hR.1
  have hFF := ff_le (by omega) (perm_D hE) (Nat.le_refl (4 * n))
  obtain ⟨l', t', a, hF', ha, hs1, hs2, hr⟩ := rd_face hRd hk
  obtain ⟨rfl, rfl⟩ := faceK_uniq hF hF'
  have hl := fun i => it_lt (perm_D hE) hF.1 i
  have ht := hF.2.1
  refine zMet_of (plainFor_of_name (by decide +kernel)) rfl (Nat.le_of_ble_eq_true rfl) (fun z1 z2 z3 z4 z5 z6 z7 z8 z9 z10 z11 z12 z13 z14 O hin => ?_)
  refine zi_ls (ls' := [some (.ref 0), some (.int (nI k))]) rfl ?_
  refine zi_aload_n O d_Dia_patternAt_0 rfl ?_
  refine zi_get O f_Dia_28 d_Dia_patternAt_1 rfl rfl ?_
  refine zi_iload_n O d_Dia_patternAt_4 rfl ?_
  refine zi_pureV O [10, 11, 12, 13] c_Dia_59 k_Fac_size (m_Fac_size (FF (nxD fr to_ at_) (4 * n) (4 * n)).2 OF RD ST k a (a + t') (by omega) hs1 hs2 (by omega)) d_Dia_patternAt_5 ⟨(Nat.le_of_ble_eq_true rfl), (Nat.le_of_ble_eq_true rfl)⟩ ⟨(Nat.le_of_ble_eq_true rfl), (Nat.le_of_ble_eq_true rfl)⟩ rfl rfl (Nat.le_of_ble_eq_true rfl) rfl rfl rfl rfl rfl (Nat.le_of_ble_eq_true rfl) rfl ?_
  rw [show a + t' - a = t' by omega]
  by_cases c1 : t' = 1
  · subst c1
    refine zi_tableIn O 36 d_Dia_patternAt_8 (by decide) (by decide) rfl (by decide) ?_
    refine zi_iconstN O 1 d_Dia_patternAt_36 (by decide) ?_
    refine zi_iret O d_Dia_patternAt_37 (Nat.le_of_ble_eq_true rfl) (Nat.le_of_ble_eq_true rfl) (Nat.le_of_ble_eq_true rfl) ?_
    exact ⟨by rw [pat, if_pos rfl], rfl⟩
  · by_cases c2 : t' = 2
    · subst c2
      refine zi_tableIn O 38 d_Dia_patternAt_8 (by decide) (by decide) rfl (by decide) ?_
      refine zi_aload_n O d_Dia_patternAt_38 rfl ?_
      refine zi_aload_n O d_Dia_patternAt_39 rfl ?_
      refine zi_get O f_Dia_28 d_Dia_patternAt_40 rfl rfl ?_
      refine zi_iload_n O d_Dia_patternAt_43 rfl ?_
      refine zi_iconstN O 0 d_Dia_patternAt_44 (by decide) ?_
      refine zi_pureV O [10, 11, 12, 13] c_Dia_63 k_Fac_dart (m_Fac_dart (FF (nxD fr to_ at_) (4 * n) (4 * n)).2 OF RD ST k 0 a l' (by omega) hs1 (by omega) (hr 0 (by omega))) d_Dia_patternAt_45 ⟨(Nat.le_of_ble_eq_true rfl), (Nat.le_of_ble_eq_true rfl)⟩ ⟨(Nat.le_of_ble_eq_true rfl), (Nat.le_of_ble_eq_true rfl)⟩ rfl rfl (Nat.le_of_ble_eq_true rfl) rfl rfl rfl rfl rfl (Nat.le_of_ble_eq_true rfl) rfl ?_
      refine zi_aload_n O d_Dia_patternAt_48 rfl ?_
      refine zi_get O f_Dia_28 d_Dia_patternAt_49 rfl rfl ?_
      refine zi_iload_n O d_Dia_patternAt_52 rfl ?_
      refine zi_iconstN O 1 d_Dia_patternAt_53 (by decide) ?_
      refine zi_pureV O [10, 11, 12, 13] c_Dia_63 k_Fac_dart (m_Fac_dart (FF (nxD fr to_ at_) (4 * n) (4 * n)).2 OF RD ST k 1 a (nxD fr to_ at_ l') (by omega) hs1 (by omega) (hr 1 (by omega))) d_Dia_patternAt_54 ⟨(Nat.le_of_ble_eq_true rfl), (Nat.le_of_ble_eq_true rfl)⟩ ⟨(Nat.le_of_ble_eq_true rfl), (Nat.le_of_ble_eq_true rfl)⟩ rfl rfl (Nat.le_of_ble_eq_true rfl) rfl rfl rfl rfl rfl (Nat.le_of_ble_eq_true rfl) rfl ?_
      refine zi_selfP O c_Dia_67 k_Dia_isFinger (m_Dia_isFinger hD' l' (nxD fr to_ at_ l') (hl 0) (hl 1)) d_Dia_patternAt_57 ⟨(Nat.le_of_ble_eq_true rfl), (Nat.le_of_ble_eq_true rfl)⟩ ⟨(Nat.le_of_ble_eq_true rfl), (Nat.le_of_ble_eq_true rfl)⟩ rfl rfl (Nat.le_of_ble_eq_true rfl) rfl rfl rfl (Nat.le_of_ble_eq_true rfl) rfl ?_
      by_cases c : isFin fr to_ l' (nxD fr to_ at_ l')
      · rw [zb_t c]
        refine zi_if_eq O 67 d_Dia_patternAt_60 (by decide) (fun c60 => ?_) (fun c60 => ?_)
        · exact absurd c60 (by decide)
        · refine zi_iconstN O 2 d_Dia_patternAt_63 (by decide) ?_
          refine zi_goto O 68 d_Dia_patternAt_64 (by decide) ?_
          refine zi_iret O d_Dia_patternAt_68 (Nat.le_of_ble_eq_true rfl) (Nat.le_of_ble_eq_true rfl) (Nat.le_of_ble_eq_true rfl) ?_
          exact ⟨by rw [pat, if_neg c1, if_pos rfl, if_pos c], rfl⟩
      · rw [zb_f c]
        refine zi_if_eq O 67 d_Dia_patternAt_60 (by decide) (fun c60 => ?_) (fun c60 => ?_)
        · refine zi_iconstN O 0 d_Dia_patternAt_67 (by decide) ?_
          refine zi_iret O d_Dia_patternAt_68 (Nat.le_of_ble_eq_true rfl) (Nat.le_of_ble_eq_true rfl) (Nat.le_of_ble_eq_true rfl) ?_
          exact ⟨by rw [pat, if_neg c1, if_pos rfl, if_neg c], rfl⟩
        · exact absurd rfl c60
    · by_cases c3 : t' = 3
      · subst c3
        refine zi_tableIn O 69 d_Dia_patternAt_8 (by decide) (by decide) rfl (by decide) ?_
        refine zi_aload_n O d_Dia_patternAt_69 rfl ?_
        refine zi_iload_n O d_Dia_patternAt_70 rfl ?_
        refine zi_selfP O c_Dia_71 k_Dia_isTriangle (m_Dia_isTriangle hD' k l' hk hF) d_Dia_patternAt_71 ⟨(Nat.le_of_ble_eq_true rfl), (Nat.le_of_ble_eq_true rfl)⟩ ⟨(Nat.le_of_ble_eq_true rfl), (Nat.le_of_ble_eq_true rfl)⟩ rfl rfl (Nat.le_of_ble_eq_true rfl) rfl rfl rfl (Nat.le_of_ble_eq_true rfl) rfl ?_
        by_cases c : isTri fr to_ l' (nxD fr to_ at_ l') (nxD fr to_ at_ (nxD fr to_ at_ l'))
        · rw [zb_t c]
          refine zi_if_eq O 81 d_Dia_patternAt_74 (by decide) (fun c74 => ?_) (fun c74 => ?_)
          · exact absurd c74 (by decide)
          · refine zi_iconstN O 3 d_Dia_patternAt_77 (by decide) ?_
            refine zi_goto O 82 d_Dia_patternAt_78 (by decide) ?_
            refine zi_iret O d_Dia_patternAt_82 (Nat.le_of_ble_eq_true rfl) (Nat.le_of_ble_eq_true rfl) (Nat.le_of_ble_eq_true rfl) ?_
            exact ⟨by rw [pat, if_neg c1, if_neg c2, if_pos rfl, if_pos c], rfl⟩
        · rw [zb_f c]
          refine zi_if_eq O 81 d_Dia_patternAt_74 (by decide) (fun c74 => ?_) (fun c74 => ?_)
          · refine zi_iconstN O 0 d_Dia_patternAt_81 (by decide) ?_
            refine zi_iret O d_Dia_patternAt_82 (Nat.le_of_ble_eq_true rfl) (Nat.le_of_ble_eq_true rfl) (Nat.le_of_ble_eq_true rfl) ?_
            exact ⟨by rw [pat, if_neg c1, if_neg c2, if_pos rfl, if_neg c], rfl⟩
          · exact absurd rfl c74
      · refine zi_tableOut O 83 d_Dia_patternAt_8 (Or.inr ?_) (by decide) ?_
        · rw [nI_toInt (by omega)]; omega
        · refine zi_iconstN O 0 d_Dia_patternAt_83 (by decide) ?_
          refine zi_iret O d_Dia_patternAt_84 (Nat.le_of_ble_eq_true rfl) (Nat.le_of_ble_eq_true rfl) (Nat.le_of_ble_eq_true rfl) ?_
          exact ⟨by rw [pat, if_neg c1, if_neg c2, if_neg c3], rfl⟩
theorem pat_le (nx : Nat → Nat) (l t : Nat) : pat fr to_ nx l t ≤ 3 := by unfold pat; split <;> (try split) <;> (try split) <;> (try split) <;> omega
/-- every face below the count is a face -/
theorem dia_face (hD : Dia n lab S ci el fr to_ at_ oc h) {k : Nat} (hk : k < (FF (nxD fr to_ at_) (4 * n) (4 * n)).2) : ∃ l t, FaceK n (nxD fr to_ at_) k l t := by
  obtain ⟨L, PL, LB, FR, TO, AT, OF, RD, ST, OC, CE, SL, rfl, hR, hG, hz, hE, hA, hRd, hO, hP, hOF⟩ := hD
  obtain ⟨l, t, a, hF, -⟩ := rd_face hRd hk
  exact ⟨l, t, hF⟩
abbrev Und (n : Nat) (fr to_ at_ : Nat → Nat) (k : Nat) : Prop := ∀ l t, FaceK n (nxD fr to_ at_) k l t → pat fr to_ (nxD fr to_ at_) l t = 1 ∨ pat fr to_ (nxD fr to_ at_) l t = 2
theorem m_Dia_leastFaceToUndo (hD : Dia n lab S ci el fr to_ at_ oc h) (k : Nat) (hk : k < (FF (nxD fr to_ at_) (4 * n) (4 * n)).2) (hu : Und n fr to_ at_ k) (hb : ∀ j, j < k → ¬ Und n fr to_ at_ j) : zPu y_Dia_leastFaceToUndo b_Dia_leastFaceToUndo 3 (some .int) ⟨4, 0, 0, 115⟩ [.ref 0] h (.int (nI k)) := by
  have hD' := hD
  have hF0 := fun j (hj : j < (FF (nxD fr to_ at_) (4 * n) (4 * n)).2) => dia_face hD' hj
  obtain ⟨L, PL, LB, FR, TO, AT, OF, RD, ST, OC, CE, SL, rfl, hR, hG, hz, hE, hA, hRd, hO, hP, hOF⟩ := hD
  have hn := hR.1
  have hFF := ff_le (by omega) (perm_D hE) (Nat.le_refl (4 * n))
  refine zMet_of (plainFor_of_name (by decide +kernel)) rfl (Nat.le_of_ble_eq_true rfl) (fun z1 z2 z3 z4 z5 z6 z7 z8 z9 z10 z11 z12 z13 z14 O hin => ?_)
  refine zi_ls (ls' := [some (.ref 0), none, none]) rfl ?_
  refine zi_iconstN O 0 d_Dia_leastFaceToUndo_0 (by decide) ?_
  refine zi_istore_n (ls' := _ :: some _ :: _) O d_Dia_leastFaceToUndo_1 rfl (by decide) rfl ?_
  refine zi_for (fun i => [some (.ref 0), some (.int (nI i)), none]) (fun _ => diaH ci n L S (2 * n) PL LB FR TO AT (FF (nxD fr to_ at_) (4 * n) (4 * n)).2 OF RD ST (rc oc n) (FF (nxE to_ at_) (2 * n) (2 * n)).2 OC CE SL) 0 k (by omega) rfl rfl (fun i _ hi ih => ?_) ?_
  · obtain ⟨l, t, hF⟩ := hF0 i (by omega)
    have hp := pat_le (fr := fr) (to_ := to_) (nxD fr to_ at_) l t
    have hno : ¬ (pat fr to_ (nxD fr to_ at_) l t = 1 ∨ pat fr to_ (nxD fr to_ at_) l t = 2) := fun z => hb i hi (fun l' t' hF' => by
      obtain ⟨rfl, rfl⟩ := faceK_uniq hF hF'
      exact z)
    refine zi_iload_n O d_Dia_leastFaceToUndo_2 rfl ?_
    refine zi_aload_n O d_Dia_leastFaceToUndo_3 rfl ?_
    refine zi_get O f_Dia_28 d_Dia_leastFaceToUndo_4 rfl rfl ?_
    refine zi_get O f_Dia_57 d_Dia_leastFaceToUndo_7 rfl rfl ?_
    refine zi_icmp_geN O 37 d_Dia_leastFaceToUndo_10 (by decide) (by omega) (by omega) (fun c10 => ?_) (fun c10 => ?_)
    · omega
    · refine zi_aload_n O d_Dia_leastFaceToUndo_13 rfl ?_
      refine zi_iload_n O d_Dia_leastFaceToUndo_14 rfl ?_
      refine zi_selfP O c_Dia_89 k_Dia_patternAt (m_Dia_patternAt hD' i l t (by omega) hF) d_Dia_leastFaceToUndo_15 ⟨(Nat.le_of_ble_eq_true rfl), (Nat.le_of_ble_eq_true rfl)⟩ ⟨(Nat.le_of_ble_eq_true rfl), (Nat.le_of_ble_eq_true rfl)⟩ rfl rfl (Nat.le_of_ble_eq_true rfl) rfl rfl rfl (Nat.le_of_ble_eq_true rfl) rfl ?_
      refine zi_istore_n (ls' := _ :: _ :: some _ :: _) O d_Dia_leastFaceToUndo_18 rfl (by decide) rfl ?_
      refine zi_iload_n O d_Dia_leastFaceToUndo_19 rfl ?_
      refine zi_iconstN O 1 d_Dia_leastFaceToUndo_20 (by decide) ?_
      refine zi_icmp_eqN O 29 d_Dia_leastFaceToUndo_21 (by decide) (by omega) (by omega) (fun c21 => ?_) (fun c21 => ?_)
      · exact absurd (Or.inl c21) hno
      · refine zi_iload_n O d_Dia_leastFaceToUndo_24 rfl ?_
        refine zi_iconstN O 2 d_Dia_leastFaceToUndo_25 (by decide) ?_
        refine zi_icmp_neN O 31 d_Dia_leastFaceToUndo_26 (by decide) (by omega) (by omega) (fun c26 => ?_) (fun c26 => ?_)
        · refine zi_iincN (ls' := _ :: some _ :: _) O 1 d_Dia_leastFaceToUndo_31 rfl (by decide) rfl (by decide) rfl ?_
          refine zi_goto O 2 d_Dia_leastFaceToUndo_34 (by decide) ?_
          refine zi_no 2 (ls' := _ :: _ :: none :: _) rfl ?_
          exact ih
        · exact absurd (Or.inr c26) hno
  · obtain ⟨l, t, hF⟩ := hF0 k hk
    have hp := pat_le (fr := fr) (to_ := to_) (nxD fr to_ at_) l t
    have hyes := hu l t hF
    refine zi_iload_n O d_Dia_leastFaceToUndo_2 rfl ?_
    refine zi_aload_n O d_Dia_leastFaceToUndo_3 rfl ?_
    refine zi_get O f_Dia_28 d_Dia_leastFaceToUndo_4 rfl rfl ?_
    refine zi_get O f_Dia_57 d_Dia_leastFaceToUndo_7 rfl rfl ?_
    refine zi_icmp_geN O 37 d_Dia_leastFaceToUndo_10 (by decide) (by omega) (by omega) (fun c10 => ?_) (fun c10 => ?_)
    · omega
    · refine zi_aload_n O d_Dia_leastFaceToUndo_13 rfl ?_
      refine zi_iload_n O d_Dia_leastFaceToUndo_14 rfl ?_
      refine zi_selfP O c_Dia_89 k_Dia_patternAt (m_Dia_patternAt hD' k l t hk hF) d_Dia_leastFaceToUndo_15 ⟨(Nat.le_of_ble_eq_true rfl), (Nat.le_of_ble_eq_true rfl)⟩ ⟨(Nat.le_of_ble_eq_true rfl), (Nat.le_of_ble_eq_true rfl)⟩ rfl rfl (Nat.le_of_ble_eq_true rfl) rfl rfl rfl (Nat.le_of_ble_eq_true rfl) rfl ?_
      refine zi_istore_n (ls' := _ :: _ :: some _ :: _) O d_Dia_leastFaceToUndo_18 rfl (by decide) rfl ?_
      refine zi_iload_n O d_Dia_leastFaceToUndo_19 rfl ?_
      refine zi_iconstN O 1 d_Dia_leastFaceToUndo_20 (by decide) ?_
      refine zi_icmp_eqN O 29 d_Dia_leastFaceToUndo_21 (by decide) (by omega) (by omega) (fun c21 => ?_) (fun c21 => ?_)
      · refine zi_iload_n O d_Dia_leastFaceToUndo_29 rfl ?_
        refine zi_iret O d_Dia_leastFaceToUndo_30 (Nat.le_of_ble_eq_true rfl) (Nat.le_of_ble_eq_true rfl) (Nat.le_of_ble_eq_true rfl) ?_
        exact ⟨rfl, rfl⟩
      · refine zi_iload_n O d_Dia_leastFaceToUndo_24 rfl ?_
        refine zi_iconstN O 2 d_Dia_leastFaceToUndo_25 (by decide) ?_
        refine zi_icmp_neN O 31 d_Dia_leastFaceToUndo_26 (by decide) (by omega) (by omega) (fun c26 => ?_) (fun c26 => ?_)
        · omega
        · refine zi_iload_n O d_Dia_leastFaceToUndo_29 rfl ?_
          refine zi_iret O d_Dia_leastFaceToUndo_30 (Nat.le_of_ble_eq_true rfl) (Nat.le_of_ble_eq_true rfl) (Nat.le_of_ble_eq_true rfl) ?_
          exact ⟨rfl, rfl⟩
theorem m_Dia_leastFaceToUndo_no (hD : Dia n lab S ci el fr to_ at_ oc h) (hb : ∀ j, j < (FF (nxD fr to_ at_) (4 * n) (4 * n)).2 → ¬ Und n fr to_ at_ j) : zPu y_Dia_leastFaceToUndo b_Dia_leastFaceToUndo 3 (some .int) ⟨4, 0, 0, 115⟩ [.ref 0] h (.int (-1)) := by
  have hD' := hD
  have hF0 := fun j (hj : j < (FF (nxD fr to_ at_) (4 * n) (4 * n)).2) => dia_face hD' hj
  obtain ⟨L, PL, LB, FR, TO, AT, OF, RD, ST, OC, CE, SL, rfl, hR, hG, hz, hE, hA, hRd, hO, hP, hOF⟩ := hD
  have hn := hR.1
  have hFF := ff_le (by omega) (perm_D hE) (Nat.le_refl (4 * n))
  refine zMet_of (plainFor_of_name (by decide +kernel)) rfl (Nat.le_of_ble_eq_true rfl) (fun z1 z2 z3 z4 z5 z6 z7 z8 z9 z10 z11 z12 z13 z14 O hin => ?_)
  refine zi_ls (ls' := [some (.ref 0), none, none]) rfl ?_
  refine zi_iconstN O 0 d_Dia_leastFaceToUndo_0 (by decide) ?_
  refine zi_istore_n (ls' := _ :: some _ :: _) O d_Dia_leastFaceToUndo_1 rfl (by decide) rfl ?_
  refine zi_for (fun i => [some (.ref 0), some (.int (nI i)), none]) (fun _ => diaH ci n L S (2 * n) PL LB FR TO AT (FF (nxD fr to_ at_) (4 * n) (4 * n)).2 OF RD ST (rc oc n) (FF (nxE to_ at_) (2 * n) (2 * n)).2 OC CE SL) 0 (FF (nxD fr to_ at_) (4 * n) (4 * n)).2 (by omega) rfl rfl (fun i _ hi ih => ?_) ?_
  · obtain ⟨l, t, hF⟩ := hF0 i (by omega)
    have hp := pat_le (fr := fr) (to_ := to_) (nxD fr to_ at_) l t
    have hno : ¬ (pat fr to_ (nxD fr to_ at_) l t = 1 ∨ pat fr to_ (nxD fr to_ at_) l t = 2) := fun z => hb i hi (fun l' t' hF' => by
      obtain ⟨rfl, rfl⟩ := faceK_uniq hF hF'
      exact z)
    refine zi_iload_n O d_Dia_leastFaceToUndo_2 rfl ?_
    refine zi_aload_n O d_Dia_leastFaceToUndo_3 rfl ?_
    refine zi_get O f_Dia_28 d_Dia_leastFaceToUndo_4 rfl rfl ?_
    refine zi_get O f_Dia_57 d_Dia_leastFaceToUndo_7 rfl rfl ?_
    refine zi_icmp_geN O 37 d_Dia_leastFaceToUndo_10 (by decide) (by omega) (by omega) (fun c10 => ?_) (fun c10 => ?_)
    · omega
    · refine zi_aload_n O d_Dia_leastFaceToUndo_13 rfl ?_
      refine zi_iload_n O d_Dia_leastFaceToUndo_14 rfl ?_
      refine zi_selfP O c_Dia_89 k_Dia_patternAt (m_Dia_patternAt hD' i l t (by omega) hF) d_Dia_leastFaceToUndo_15 ⟨(Nat.le_of_ble_eq_true rfl), (Nat.le_of_ble_eq_true rfl)⟩ ⟨(Nat.le_of_ble_eq_true rfl), (Nat.le_of_ble_eq_true rfl)⟩ rfl rfl (Nat.le_of_ble_eq_true rfl) rfl rfl rfl (Nat.le_of_ble_eq_true rfl) rfl ?_
      refine zi_istore_n (ls' := _ :: _ :: some _ :: _) O d_Dia_leastFaceToUndo_18 rfl (by decide) rfl ?_
      refine zi_iload_n O d_Dia_leastFaceToUndo_19 rfl ?_
      refine zi_iconstN O 1 d_Dia_leastFaceToUndo_20 (by decide) ?_
      refine zi_icmp_eqN O 29 d_Dia_leastFaceToUndo_21 (by decide) (by omega) (by omega) (fun c21 => ?_) (fun c21 => ?_)
      · exact absurd (Or.inl c21) hno
      · refine zi_iload_n O d_Dia_leastFaceToUndo_24 rfl ?_
        refine zi_iconstN O 2 d_Dia_leastFaceToUndo_25 (by decide) ?_
        refine zi_icmp_neN O 31 d_Dia_leastFaceToUndo_26 (by decide) (by omega) (by omega) (fun c26 => ?_) (fun c26 => ?_)
        · refine zi_iincN (ls' := _ :: some _ :: _) O 1 d_Dia_leastFaceToUndo_31 rfl (by decide) rfl (by decide) rfl ?_
          refine zi_goto O 2 d_Dia_leastFaceToUndo_34 (by decide) ?_
          refine zi_no 2 (ls' := _ :: _ :: none :: _) rfl ?_
          exact ih
        · exact absurd (Or.inr c26) hno
  · refine zi_iload_n O d_Dia_leastFaceToUndo_2 rfl ?_
    refine zi_aload_n O d_Dia_leastFaceToUndo_3 rfl ?_
    refine zi_get O f_Dia_28 d_Dia_leastFaceToUndo_4 rfl rfl ?_
    refine zi_get O f_Dia_57 d_Dia_leastFaceToUndo_7 rfl rfl ?_
    refine zi_icmp_geN O 37 d_Dia_leastFaceToUndo_10 (by decide) (by omega) (by omega) (fun c10 => ?_) (fun c10 => ?_)
    · refine zi_iconst (v := -1) O d_Dia_leastFaceToUndo_37 (by decide) ?_
      refine zi_iret O d_Dia_leastFaceToUndo_38 (Nat.le_of_ble_eq_true rfl) (Nat.le_of_ble_eq_true rfl) (Nat.le_of_ble_eq_true rfl) ?_
      exact ⟨rfl, rfl⟩
    · omega
end
