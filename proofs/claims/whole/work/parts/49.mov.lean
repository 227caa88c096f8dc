/-! DiagramMoves: its cells; isSign, isLabel, crossing -/
abbrev movH (i j : Nat) (hA hB : List zE) : List zE := zo 0 [.ref i, .ref j] :: (hA.map (zc (fun q => q + 1)) ++ hB.map (zc (fun q => q + 19)))
/-- the diagram's cells hold P, the draft's R -/
def Mv (P R : List zE → Prop) (h : List zE) : Prop := (∃ hA hB, P hA ∧ R hB ∧ h = movH 1 19 hA hB) ∨ (∃ hA hB, R hA ∧ P hB ∧ h = movH 19 1 hA hB)
theorem m_Mov_isSign (x : Int32) : zPu y_Mov_isSign b_Mov_isSign 1 (some .boolean) ⟨0, 0, 0, 0⟩ [.int x] [] (.int (zb (x = nI 1 ∨ x = -1))) := by
  refine zMet_of (plainFor_of_name (by decide +kernel)) rfl (Nat.le_of_ble_eq_true rfl) (fun z1 z2 z3 z4 z5 z6 z7 z8 z9 z10 z11 z12 z13 z14 O hin => ?_)
  refine zi_ls (ls' := [some (.int x)]) rfl ?_
  refine zi_iload_n O d_Mov_isSign_0 rfl ?_
  refine zi_iconstN O 1 d_Mov_isSign_1 (by decide) ?_
  refine zi_icmp_eq O 10 d_Mov_isSign_2 (by decide) (fun c2 => ?_) (fun c2 => ?_)
  · refine zi_iconstN O 1 d_Mov_isSign_10 (by decide) ?_
    refine zi_goto O 15 d_Mov_isSign_11 (by decide) ?_
    refine zi_zret O d_Mov_isSign_15 rfl (Nat.le_of_ble_eq_true rfl) (Nat.le_of_ble_eq_true rfl) (Nat.le_of_ble_eq_true rfl) ?_
    exact ⟨by rw [zb_t (Or.inl c2)]; rfl, rfl⟩
  · refine zi_iload_n O d_Mov_isSign_5 rfl ?_
    refine zi_iconst (v := -1) O d_Mov_isSign_6 (by decide) ?_
    refine zi_icmp_ne O 14 d_Mov_isSign_7 (by decide) (fun c7 => ?_) (fun c7 => ?_)
    · refine zi_iconstN O 0 d_Mov_isSign_14 (by decide) ?_
      refine zi_zret O d_Mov_isSign_15 rfl (Nat.le_of_ble_eq_true rfl) (Nat.le_of_ble_eq_true rfl) (Nat.le_of_ble_eq_true rfl) ?_
      exact ⟨by rw [zb_f (fun z => z.elim c2 c7)]; rfl, rfl⟩
    · refine zi_iconstN O 1 d_Mov_isSign_10 (by decide) ?_
      refine zi_goto O 15 d_Mov_isSign_11 (by decide) ?_
      refine zi_zret O d_Mov_isSign_15 rfl (Nat.le_of_ble_eq_true rfl) (Nat.le_of_ble_eq_true rfl) (Nat.le_of_ble_eq_true rfl) ?_
      exact ⟨by rw [zb_t (Or.inr c7)]; rfl, rfl⟩
abbrev okL (x : Int32) : Prop := ¬ x < nI 1 ∧ ¬ nI 9999 < x
theorem okL_nat {x : Int32} (h : okL x) : ∃ a, x = nI a ∧ 1 ≤ a ∧ a ≤ 9999 := by
  obtain ⟨h1, h2⟩ := h
  have h0 : ¬ x < 0 := fun z => h1 (Int32.lt_of_lt_of_le z (by decide))
  obtain ⟨j, hj, rfl⟩ := nI_of h0
  refine ⟨j, rfl, ?_, ?_⟩
  · apply Nat.not_lt.mp
    intro z
    exact h1 ((nI_ltI hj (by omega)).mpr (by omega))
  · apply Nat.not_lt.mp
    intro z
    exact h2 ((nI_ltI (by omega) hj).mpr z)
theorem m_Mov_isLabel (x : Int32) : zPu y_Mov_isLabel b_Mov_isLabel 1 (some .boolean) ⟨0, 0, 0, 0⟩ [.int x] [] (.int (zb (okL x))) := by
  refine zMet_of (plainFor_of_name (by decide +kernel)) rfl (Nat.le_of_ble_eq_true rfl) (fun z1 z2 z3 z4 z5 z6 z7 z8 z9 z10 z11 z12 z13 z14 O hin => ?_)
  refine zi_ls (ls' := [some (.int x)]) rfl ?_
  refine zi_iload_n O d_Mov_isLabel_0 rfl ?_
  refine zi_iconstN O 1 d_Mov_isLabel_1 (by decide) ?_
  refine zi_icmp_lt O 16 d_Mov_isLabel_2 (by decide) (fun c2 => ?_) (fun c2 => ?_)
  · refine zi_iconstN O 0 d_Mov_isLabel_16 (by decide) ?_
    refine zi_zret O d_Mov_isLabel_17 rfl (Nat.le_of_ble_eq_true rfl) (Nat.le_of_ble_eq_true rfl) (Nat.le_of_ble_eq_true rfl) ?_
    exact ⟨by rw [zb_f (fun z => z.1 c2)]; rfl, rfl⟩
  · refine zi_iload_n O d_Mov_isLabel_5 rfl ?_
    refine zi_sipushN O 9999 d_Mov_isLabel_6 (by decide) ?_
    refine zi_icmp_gt O 16 d_Mov_isLabel_9 (by decide) (fun c9 => ?_) (fun c9 => ?_)
    · refine zi_iconstN O 0 d_Mov_isLabel_16 (by decide) ?_
      refine zi_zret O d_Mov_isLabel_17 rfl (Nat.le_of_ble_eq_true rfl) (Nat.le_of_ble_eq_true rfl) (Nat.le_of_ble_eq_true rfl) ?_
      exact ⟨by rw [zb_f (fun z => z.2 c9)]; rfl, rfl⟩
    · refine zi_iconstN O 1 d_Mov_isLabel_12 (by decide) ?_
      refine zi_goto O 17 d_Mov_isLabel_13 (by decide) ?_
      refine zi_zret O d_Mov_isLabel_17 rfl (Nat.le_of_ble_eq_true rfl) (Nat.le_of_ble_eq_true rfl) (Nat.le_of_ble_eq_true rfl) ?_
      exact ⟨by rw [zb_t ⟨c2, c9⟩]; rfl, rfl⟩
section
variable {n k : Nat} {L PL LB FR TO AT OF RD ST OC CE SL L' PL' LB' FR' TO' AT' OF' RD' ST' OC' CE' SL' : Nat → Int32} {m F pc co m' F' pc' co' : Nat} {lab plab : Nat → Nat} {S T : Nat → Int32} {ci cj : Int32} {el fr to_ at_ oc : Nat → Nat} {h : List zE}
abbrev okC (k : Nat) (sg l0 l1 l2 l3 : Int32) : Prop := (sg = nI 1 ∨ sg = -1) ∧ (okL l0 ∧ okL l1 ∧ okL l2 ∧ okL l3) ∧ k < 20
set_option maxHeartbeats 1000000 in
theorem m_Mov_crossing_1 (sg l0 l1 l2 l3 : Int32) (hP0 : Dr n lab S ci (diaH ci n L S m PL LB FR TO AT F OF RD ST pc co OC CE SL)) (hR0 : Dr k plab T cj (diaH cj k L' T m' PL' LB' FR' TO' AT' F' OF' RD' ST' pc' co' OC' CE' SL')) : zMet y_Mov_crossing b_Mov_crossing 7 (some .int) ⟨2, 0, 0, 60⟩ [.ref 0, .int sg, .int l0, .int l1, .int l2, .int l3] (movH 1 19 (diaH ci n L S m PL LB FR TO AT F OF RD ST pc co OC CE SL) (diaH cj k L' T m' PL' LB' FR' TO' AT' F' OF' RD' ST' pc' co' OC' CE' SL'))
    (fun r h' => (¬ okC k sg l0 l1 l2 l3 ∧ r = some (.int (-1)) ∧ h' = movH 1 19 (diaH ci n L S m PL LB FR TO AT F OF RD ST pc co OC CE SL) (diaH cj k L' T m' PL' LB' FR' TO' AT' F' OF' RD' ST' pc' co' OC' CE' SL')) ∨ (okC k sg l0 l1 l2 l3 ∧ r = some (.int (nI (k + 1))) ∧ ∃ a0 a1 a2 a3, l0 = nI a0 ∧ l1 = nI a1 ∧ l2 = nI a2 ∧ l3 = nI a3 ∧ ∃ hB, Dr (k + 1) (ad4 plab k a0 a1 a2 a3) (upd T k sg) cj hB ∧ h' = movH 1 19 (diaH ci n L S m PL LB FR TO AT F OF RD ST pc co OC CE SL) hB)) := by
  have hk : k ≤ 20 := by
    obtain ⟨L2, -, -, -, -, -, -, -, -, -, -, -, -, -, -, -, -, hR2, -⟩ := hR0
    exact hR2.1
  refine zMet_of (plainFor_of_name (by decide +kernel)) rfl (Nat.le_of_ble_eq_true rfl) (fun z1 z2 z3 z4 z5 z6 z7 z8 z9 z10 z11 z12 z13 z14 O hin => ?_)
  refine zi_ls (ls' := [some (.ref 0), some (.int sg), some (.int l0), some (.int l1), some (.int l2), some (.int l3), none]) rfl ?_
  refine zi_iload_n O d_Mov_crossing_0 rfl ?_
  refine zi_pureS O [] c_Mov_19 k_Mov_isLabel (m_Mov_isLabel l0) d_Mov_crossing_1 ⟨(Nat.le_of_ble_eq_true rfl), (Nat.le_of_ble_eq_true rfl)⟩ ⟨(Nat.le_of_ble_eq_true rfl), (Nat.le_of_ble_eq_true rfl)⟩ rfl (Nat.le_of_ble_eq_true rfl) rfl rfl rfl rfl rfl (Nat.le_of_ble_eq_true rfl) rfl ?_
  by_cases q0 : okL l0
  · rw [zb_t q0]
    refine zi_if_eq O 34 d_Mov_crossing_4 (by decide) (fun c4 => ?_) (fun c4 => ?_)
    · exact absurd c4 (by decide)
    · refine zi_iload_n O d_Mov_crossing_7 rfl ?_
      refine zi_pureS O [] c_Mov_19 k_Mov_isLabel (m_Mov_isLabel l1) d_Mov_crossing_8 ⟨(Nat.le_of_ble_eq_true rfl), (Nat.le_of_ble_eq_true rfl)⟩ ⟨(Nat.le_of_ble_eq_true rfl), (Nat.le_of_ble_eq_true rfl)⟩ rfl (Nat.le_of_ble_eq_true rfl) rfl rfl rfl rfl rfl (Nat.le_of_ble_eq_true rfl) rfl ?_
      by_cases q1 : okL l1
      · rw [zb_t q1]
        refine zi_if_eq O 34 d_Mov_crossing_11 (by decide) (fun c11 => ?_) (fun c11 => ?_)
        · exact absurd c11 (by decide)
        · refine zi_iload O d_Mov_crossing_14 rfl ?_
          refine zi_pureS O [] c_Mov_19 k_Mov_isLabel (m_Mov_isLabel l2) d_Mov_crossing_16 ⟨(Nat.le_of_ble_eq_true rfl), (Nat.le_of_ble_eq_true rfl)⟩ ⟨(Nat.le_of_ble_eq_true rfl), (Nat.le_of_ble_eq_true rfl)⟩ rfl (Nat.le_of_ble_eq_true rfl) rfl rfl rfl rfl rfl (Nat.le_of_ble_eq_true rfl) rfl ?_
          by_cases q2 : okL l2
          · rw [zb_t q2]
            refine zi_if_eq O 34 d_Mov_crossing_19 (by decide) (fun c19 => ?_) (fun c19 => ?_)
            · exact absurd c19 (by decide)
            · refine zi_iload O d_Mov_crossing_22 rfl ?_
              refine zi_pureS O [] c_Mov_19 k_Mov_isLabel (m_Mov_isLabel l3) d_Mov_crossing_24 ⟨(Nat.le_of_ble_eq_true rfl), (Nat.le_of_ble_eq_true rfl)⟩ ⟨(Nat.le_of_ble_eq_true rfl), (Nat.le_of_ble_eq_true rfl)⟩ rfl (Nat.le_of_ble_eq_true rfl) rfl rfl rfl rfl rfl (Nat.le_of_ble_eq_true rfl) rfl ?_
              by_cases q3 : okL l3
              · rw [zb_t q3]
                refine zi_if_eq O 34 d_Mov_crossing_27 (by decide) (fun c27 => ?_) (fun c27 => ?_)
                · exact absurd c27 (by decide)
                · refine zi_iconstN O 1 d_Mov_crossing_30 (by decide) ?_
                  refine zi_goto O 35 d_Mov_crossing_31 (by decide) ?_
                  refine zi_istore (ls' := _ :: _ :: _ :: _ :: _ :: _ :: some _ :: _) O d_Mov_crossing_35 rfl (by decide) rfl ?_
                  refine zi_iload_n O d_Mov_crossing_37 rfl ?_
                  refine zi_pureS O [] c_Mov_23 k_Mov_isSign (m_Mov_isSign sg) d_Mov_crossing_38 ⟨(Nat.le_of_ble_eq_true rfl), (Nat.le_of_ble_eq_true rfl)⟩ ⟨(Nat.le_of_ble_eq_true rfl), (Nat.le_of_ble_eq_true rfl)⟩ rfl (Nat.le_of_ble_eq_true rfl) rfl rfl rfl rfl rfl (Nat.le_of_ble_eq_true rfl) rfl ?_
                  by_cases hs : sg = nI 1 ∨ sg = -1
                  · rw [zb_t hs]
                    refine zi_if_eq O 62 d_Mov_crossing_41 (by decide) (fun c41 => ?_) (fun c41 => ?_)
                    · exact absurd c41 (by decide)
                    · refine zi_iload O d_Mov_crossing_44 rfl ?_
                      refine zi_if_eq O 62 d_Mov_crossing_46 (by decide) (fun c46 => ?_) (fun c46 => ?_)
                      · exact absurd c46 (by decide)
                      · refine zi_aload_n O d_Mov_crossing_49 rfl ?_
                        refine zi_get O f_Mov_16 d_Mov_crossing_50 rfl rfl ?_
                        refine zi_get O f_Mov_26 d_Mov_crossing_53 rfl rfl ?_
                        refine zi_pureV O [20, 21, 22] c_Mov_30 k_Row_isFull (m_Row_isFull k L' T hk) d_Mov_crossing_56 ⟨(Nat.le_of_ble_eq_true rfl), (Nat.le_of_ble_eq_true rfl)⟩ ⟨(Nat.le_of_ble_eq_true rfl), (Nat.le_of_ble_eq_true rfl)⟩ rfl rfl (Nat.le_of_ble_eq_true rfl) rfl rfl rfl rfl rfl (Nat.le_of_ble_eq_true rfl) rfl ?_
                        by_cases hf : 20 ≤ k
                        · rw [zb_t hf]
                          refine zi_if_eq O 64 d_Mov_crossing_59 (by decide) (fun c59 => ?_) (fun c59 => ?_)
                          · exact absurd c59 (by decide)
                          · refine zi_iconst (v := -1) O d_Mov_crossing_62 (by decide) ?_
                            refine zi_iret O d_Mov_crossing_63 (Nat.le_of_ble_eq_true rfl) (Nat.le_of_ble_eq_true rfl) (Nat.le_of_ble_eq_true rfl) ?_
                            exact Or.inl ⟨fun z => by have := z.2.2; omega, rfl, rfl⟩
                        · rw [zb_f hf]
                          refine zi_if_eq O 64 d_Mov_crossing_59 (by decide) (fun c59 => ?_) (fun c59 => ?_)
                          · refine zi_aload_n O d_Mov_crossing_64 rfl ?_
                            refine zi_get O f_Mov_16 d_Mov_crossing_65 rfl rfl ?_
                            refine zi_get O f_Mov_26 d_Mov_crossing_68 rfl rfl ?_
                            refine zi_iload_n O d_Mov_crossing_71 rfl ?_
                            refine zi_iload_n O d_Mov_crossing_72 rfl ?_
                            refine zi_iload_n O d_Mov_crossing_73 rfl ?_
                            refine zi_iload O d_Mov_crossing_74 rfl ?_
                            refine zi_iload O d_Mov_crossing_76 rfl ?_
                            refine zi_callV O [20, 21, 22] c_Mov_36 k_Row_add (m_Row_add k L' T sg l0 l1 l2 l3 (by omega)) d_Mov_crossing_78 ⟨(Nat.le_of_ble_eq_true rfl), (Nat.le_of_ble_eq_true rfl)⟩ ⟨(Nat.le_of_ble_eq_true rfl), (Nat.le_of_ble_eq_true rfl)⟩ rfl rfl (Nat.le_of_ble_eq_true rfl) rfl rfl rfl rfl rfl (Nat.le_of_ble_eq_true rfl) rfl (fun r h' hq hl => ?_)
                            obtain ⟨rfl, rfl⟩ := hq
                            refine zi_st (st' := []) rfl (zi_h (h' := movH 1 19 (diaH ci n L S m PL LB FR TO AT F OF RD ST pc co OC CE SL) (diaH cj (k + 1) (up4 L' k l0 l1 l2 l3) (upd T k sg) m' PL' LB' FR' TO' AT' F' OF' RD' ST' pc' co' OC' CE' SL')) rfl ?_)
                            refine zi_aload_n O d_Mov_crossing_81 rfl ?_
                            refine zi_get O f_Mov_16 d_Mov_crossing_82 rfl rfl ?_
                            refine zi_get O f_Mov_26 d_Mov_crossing_85 rfl rfl ?_
                            refine zi_get O f_Mov_40 d_Mov_crossing_88 rfl rfl ?_
                            refine zi_iret O d_Mov_crossing_91 (Nat.le_of_ble_eq_true rfl) (Nat.le_of_ble_eq_true rfl) (Nat.le_of_ble_eq_true rfl) ?_
                            obtain ⟨a0, rfl, x0⟩ := okL_nat q0
                            obtain ⟨a1, rfl, x1⟩ := okL_nat q1
                            obtain ⟨a2, rfl, x2⟩ := okL_nat q2
                            obtain ⟨a3, rfl, x3⟩ := okL_nat q3
                            have hR1 : RowOK k L' plab := by
                              obtain ⟨L2, m2, P2, B2, F2, T2, A2, f2, O2, R2, S2, p2, c2, C2, E2, Z2, e2, hR2, -⟩ := hR0
                              simp only [diaH, List.cons.injEq, Sum.inl.injEq, Prod.mk.injEq] at e2
                              obtain ⟨-, -, ⟨-, -, e3⟩, -⟩ := e2
                              rw [e3]; exact hR2
                            have hG1 : Sg k T ∧ ST' 0 = nI 0 := by
                              obtain ⟨L2, m2, P2, B2, F2, T2, A2, f2, O2, R2, S2, p2, c2, C2, E2, Z2, e2, hR2, hG2, hz2⟩ := hR0
                              simp only [diaH, List.cons.injEq, Sum.inl.injEq, Prod.mk.injEq] at e2
                              obtain ⟨-, -, -, -, -, -, -, -, -, -, -, -, -, ⟨-, -, e3⟩, -⟩ := e2
                              rw [e3]; exact ⟨hG2, hz2⟩
                            exact Or.inr ⟨⟨hs, ⟨q0, q1, q2, q3⟩, by omega⟩, rfl, a0, a1, a2, a3, rfl, rfl, rfl, rfl, _, ⟨_, m', PL', LB', FR', TO', AT', F', OF', RD', ST', pc', co', OC', CE', SL', rfl, rowOK_ad hR1 (by omega) x0 x1 x2 x3, sg_add hG1.1 hs, hG1.2⟩, rfl⟩
                          · exact absurd rfl c59
                  · rw [zb_f hs]
                    refine zi_if_eq O 62 d_Mov_crossing_41 (by decide) (fun c41 => ?_) (fun c41 => ?_)
                    · refine zi_iconst (v := -1) O d_Mov_crossing_62 (by decide) ?_
                      refine zi_iret O d_Mov_crossing_63 (Nat.le_of_ble_eq_true rfl) (Nat.le_of_ble_eq_true rfl) (Nat.le_of_ble_eq_true rfl) ?_
                      exact Or.inl ⟨fun z => hs z.1, rfl, rfl⟩
                    · exact absurd rfl c41
              · have hno : ¬ (okL l0 ∧ okL l1 ∧ okL l2 ∧ okL l3) := fun z => q3 z.2.2.2
                rw [zb_f q3]
                refine zi_if_eq O 34 d_Mov_crossing_27 (by decide) (fun c27 => ?_) (fun c27 => ?_)
                · refine zi_iconstN O 0 d_Mov_crossing_34 (by decide) ?_
                  refine zi_istore (ls' := _ :: _ :: _ :: _ :: _ :: _ :: some _ :: _) O d_Mov_crossing_35 rfl (by decide) rfl ?_
                  refine zi_iload_n O d_Mov_crossing_37 rfl ?_
                  refine zi_pureS O [] c_Mov_23 k_Mov_isSign (m_Mov_isSign sg) d_Mov_crossing_38 ⟨(Nat.le_of_ble_eq_true rfl), (Nat.le_of_ble_eq_true rfl)⟩ ⟨(Nat.le_of_ble_eq_true rfl), (Nat.le_of_ble_eq_true rfl)⟩ rfl (Nat.le_of_ble_eq_true rfl) rfl rfl rfl rfl rfl (Nat.le_of_ble_eq_true rfl) rfl ?_
                  by_cases hs : sg = nI 1 ∨ sg = -1
                  · rw [zb_t hs]
                    refine zi_if_eq O 62 d_Mov_crossing_41 (by decide) (fun c41 => ?_) (fun c41 => ?_)
                    · exact absurd c41 (by decide)
                    · refine zi_iload O d_Mov_crossing_44 rfl ?_
                      refine zi_if_eq O 62 d_Mov_crossing_46 (by decide) (fun c46 => ?_) (fun c46 => ?_)
                      · refine zi_iconst (v := -1) O d_Mov_crossing_62 (by decide) ?_
                        refine zi_iret O d_Mov_crossing_63 (Nat.le_of_ble_eq_true rfl) (Nat.le_of_ble_eq_true rfl) (Nat.le_of_ble_eq_true rfl) ?_
                        exact Or.inl ⟨fun z => hno z.2.1, rfl, rfl⟩
                      · exact absurd rfl c46
                  · rw [zb_f hs]
                    refine zi_if_eq O 62 d_Mov_crossing_41 (by decide) (fun c41 => ?_) (fun c41 => ?_)
                    · refine zi_iconst (v := -1) O d_Mov_crossing_62 (by decide) ?_
                      refine zi_iret O d_Mov_crossing_63 (Nat.le_of_ble_eq_true rfl) (Nat.le_of_ble_eq_true rfl) (Nat.le_of_ble_eq_true rfl) ?_
                      exact Or.inl ⟨fun z => hs z.1, rfl, rfl⟩
                    · exact absurd rfl c41
                · exact absurd rfl c27
          · have hno : ¬ (okL l0 ∧ okL l1 ∧ okL l2 ∧ okL l3) := fun z => q2 z.2.2.1
            rw [zb_f q2]
            refine zi_if_eq O 34 d_Mov_crossing_19 (by decide) (fun c19 => ?_) (fun c19 => ?_)
            · refine zi_iconstN O 0 d_Mov_crossing_34 (by decide) ?_
              refine zi_istore (ls' := _ :: _ :: _ :: _ :: _ :: _ :: some _ :: _) O d_Mov_crossing_35 rfl (by decide) rfl ?_
              refine zi_iload_n O d_Mov_crossing_37 rfl ?_
              refine zi_pureS O [] c_Mov_23 k_Mov_isSign (m_Mov_isSign sg) d_Mov_crossing_38 ⟨(Nat.le_of_ble_eq_true rfl), (Nat.le_of_ble_eq_true rfl)⟩ ⟨(Nat.le_of_ble_eq_true rfl), (Nat.le_of_ble_eq_true rfl)⟩ rfl (Nat.le_of_ble_eq_true rfl) rfl rfl rfl rfl rfl (Nat.le_of_ble_eq_true rfl) rfl ?_
              by_cases hs : sg = nI 1 ∨ sg = -1
              · rw [zb_t hs]
                refine zi_if_eq O 62 d_Mov_crossing_41 (by decide) (fun c41 => ?_) (fun c41 => ?_)
                · exact absurd c41 (by decide)
                · refine zi_iload O d_Mov_crossing_44 rfl ?_
                  refine zi_if_eq O 62 d_Mov_crossing_46 (by decide) (fun c46 => ?_) (fun c46 => ?_)
                  · refine zi_iconst (v := -1) O d_Mov_crossing_62 (by decide) ?_
                    refine zi_iret O d_Mov_crossing_63 (Nat.le_of_ble_eq_true rfl) (Nat.le_of_ble_eq_true rfl) (Nat.le_of_ble_eq_true rfl) ?_
                    exact Or.inl ⟨fun z => hno z.2.1, rfl, rfl⟩
                  · exact absurd rfl c46
              · rw [zb_f hs]
                refine zi_if_eq O 62 d_Mov_crossing_41 (by decide) (fun c41 => ?_) (fun c41 => ?_)
                · refine zi_iconst (v := -1) O d_Mov_crossing_62 (by decide) ?_
                  refine zi_iret O d_Mov_crossing_63 (Nat.le_of_ble_eq_true rfl) (Nat.le_of_ble_eq_true rfl) (Nat.le_of_ble_eq_true rfl) ?_
                  exact Or.inl ⟨fun z => hs z.1, rfl, rfl⟩
                · exact absurd rfl c41
            · exact absurd rfl c19
      · have hno : ¬ (okL l0 ∧ okL l1 ∧ okL l2 ∧ okL l3) := fun z => q1 z.2.1
        rw [zb_f q1]
        refine zi_if_eq O 34 d_Mov_crossing_11 (by decide) (fun c11 => ?_) (fun c11 => ?_)
        · refine zi_iconstN O 0 d_Mov_crossing_34 (by decide) ?_
          refine zi_istore (ls' := _ :: _ :: _ :: _ :: _ :: _ :: some _ :: _) O d_Mov_crossing_35 rfl (by decide) rfl ?_
          refine zi_iload_n O d_Mov_crossing_37 rfl ?_
          refine zi_pureS O [] c_Mov_23 k_Mov_isSign (m_Mov_isSign sg) d_Mov_crossing_38 ⟨(Nat.le_of_ble_eq_true rfl), (Nat.le_of_ble_eq_true rfl)⟩ ⟨(Nat.le_of_ble_eq_true rfl), (Nat.le_of_ble_eq_true rfl)⟩ rfl (Nat.le_of_ble_eq_true rfl) rfl rfl rfl rfl rfl (Nat.le_of_ble_eq_true rfl) rfl ?_
          by_cases hs : sg = nI 1 ∨ sg = -1
          · rw [zb_t hs]
            refine zi_if_eq O 62 d_Mov_crossing_41 (by decide) (fun c41 => ?_) (fun c41 => ?_)
            · exact absurd c41 (by decide)
            · refine zi_iload O d_Mov_crossing_44 rfl ?_
              refine zi_if_eq O 62 d_Mov_crossing_46 (by decide) (fun c46 => ?_) (fun c46 => ?_)
              · refine zi_iconst (v := -1) O d_Mov_crossing_62 (by decide) ?_
                refine zi_iret O d_Mov_crossing_63 (Nat.le_of_ble_eq_true rfl) (Nat.le_of_ble_eq_true rfl) (Nat.le_of_ble_eq_true rfl) ?_
                exact Or.inl ⟨fun z => hno z.2.1, rfl, rfl⟩
              · exact absurd rfl c46
          · rw [zb_f hs]
            refine zi_if_eq O 62 d_Mov_crossing_41 (by decide) (fun c41 => ?_) (fun c41 => ?_)
            · refine zi_iconst (v := -1) O d_Mov_crossing_62 (by decide) ?_
              refine zi_iret O d_Mov_crossing_63 (Nat.le_of_ble_eq_true rfl) (Nat.le_of_ble_eq_true rfl) (Nat.le_of_ble_eq_true rfl) ?_
              exact Or.inl ⟨fun z => hs z.1, rfl, rfl⟩
            · exact absurd rfl c41
        · exact absurd rfl c11
  · have hno : ¬ (okL l0 ∧ okL l1 ∧ okL l2 ∧ okL l3) := fun z => q0 z.1
    rw [zb_f q0]
    refine zi_if_eq O 34 d_Mov_crossing_4 (by decide) (fun c4 => ?_) (fun c4 => ?_)
    · refine zi_iconstN O 0 d_Mov_crossing_34 (by decide) ?_
      refine zi_istore (ls' := _ :: _ :: _ :: _ :: _ :: _ :: some _ :: _) O d_Mov_crossing_35 rfl (by decide) rfl ?_
      refine zi_iload_n O d_Mov_crossing_37 rfl ?_
      refine zi_pureS O [] c_Mov_23 k_Mov_isSign (m_Mov_isSign sg) d_Mov_crossing_38 ⟨(Nat.le_of_ble_eq_true rfl), (Nat.le_of_ble_eq_true rfl)⟩ ⟨(Nat.le_of_ble_eq_true rfl), (Nat.le_of_ble_eq_true rfl)⟩ rfl (Nat.le_of_ble_eq_true rfl) rfl rfl rfl rfl rfl (Nat.le_of_ble_eq_true rfl) rfl ?_
      by_cases hs : sg = nI 1 ∨ sg = -1
      · rw [zb_t hs]
        refine zi_if_eq O 62 d_Mov_crossing_41 (by decide) (fun c41 => ?_) (fun c41 => ?_)
        · exact absurd c41 (by decide)
        · refine zi_iload O d_Mov_crossing_44 rfl ?_
          refine zi_if_eq O 62 d_Mov_crossing_46 (by decide) (fun c46 => ?_) (fun c46 => ?_)
          · refine zi_iconst (v := -1) O d_Mov_crossing_62 (by decide) ?_
            refine zi_iret O d_Mov_crossing_63 (Nat.le_of_ble_eq_true rfl) (Nat.le_of_ble_eq_true rfl) (Nat.le_of_ble_eq_true rfl) ?_
            exact Or.inl ⟨fun z => hno z.2.1, rfl, rfl⟩
          · exact absurd rfl c46
      · rw [zb_f hs]
        refine zi_if_eq O 62 d_Mov_crossing_41 (by decide) (fun c41 => ?_) (fun c41 => ?_)
        · refine zi_iconst (v := -1) O d_Mov_crossing_62 (by decide) ?_
          refine zi_iret O d_Mov_crossing_63 (Nat.le_of_ble_eq_true rfl) (Nat.le_of_ble_eq_true rfl) (Nat.le_of_ble_eq_true rfl) ?_
          exact Or.inl ⟨fun z => hs z.1, rfl, rfl⟩
        · exact absurd rfl c41
    · exact absurd rfl c4
set_option maxHeartbeats 1000000 in
theorem m_Mov_crossing_2 (sg l0 l1 l2 l3 : Int32) (hP0 : Dr n lab S ci (diaH ci n L S m PL LB FR TO AT F OF RD ST pc co OC CE SL)) (hR0 : Dr k plab T cj (diaH cj k L' T m' PL' LB' FR' TO' AT' F' OF' RD' ST' pc' co' OC' CE' SL')) : zMet y_Mov_crossing b_Mov_crossing 7 (some .int) ⟨2, 0, 0, 60⟩ [.ref 0, .int sg, .int l0, .int l1, .int l2, .int l3] (movH 19 1 (diaH cj k L' T m' PL' LB' FR' TO' AT' F' OF' RD' ST' pc' co' OC' CE' SL') (diaH ci n L S m PL LB FR TO AT F OF RD ST pc co OC CE SL))
    (fun r h' => (¬ okC k sg l0 l1 l2 l3 ∧ r = some (.int (-1)) ∧ h' = movH 19 1 (diaH cj k L' T m' PL' LB' FR' TO' AT' F' OF' RD' ST' pc' co' OC' CE' SL') (diaH ci n L S m PL LB FR TO AT F OF RD ST pc co OC CE SL)) ∨ (okC k sg l0 l1 l2 l3 ∧ r = some (.int (nI (k + 1))) ∧ ∃ a0 a1 a2 a3, l0 = nI a0 ∧ l1 = nI a1 ∧ l2 = nI a2 ∧ l3 = nI a3 ∧ ∃ hB, Dr (k + 1) (ad4 plab k a0 a1 a2 a3) (upd T k sg) cj hB ∧ h' = movH 19 1 hB (diaH ci n L S m PL LB FR TO AT F OF RD ST pc co OC CE SL))) := by
  have hk : k ≤ 20 := by
    obtain ⟨L2, -, -, -, -, -, -, -, -, -, -, -, -, -, -, -, -, hR2, -⟩ := hR0
    exact hR2.1
  refine zMet_of (plainFor_of_name (by decide +kernel)) rfl (Nat.le_of_ble_eq_true rfl) (fun z1 z2 z3 z4 z5 z6 z7 z8 z9 z10 z11 z12 z13 z14 O hin => ?_)
  refine zi_ls (ls' := [some (.ref 0), some (.int sg), some (.int l0), some (.int l1), some (.int l2), some (.int l3), none]) rfl ?_
  refine zi_iload_n O d_Mov_crossing_0 rfl ?_
  refine zi_pureS O [] c_Mov_19 k_Mov_isLabel (m_Mov_isLabel l0) d_Mov_crossing_1 ⟨(Nat.le_of_ble_eq_true rfl), (Nat.le_of_ble_eq_true rfl)⟩ ⟨(Nat.le_of_ble_eq_true rfl), (Nat.le_of_ble_eq_true rfl)⟩ rfl (Nat.le_of_ble_eq_true rfl) rfl rfl rfl rfl rfl (Nat.le_of_ble_eq_true rfl) rfl ?_
  by_cases q0 : okL l0
  · rw [zb_t q0]
    refine zi_if_eq O 34 d_Mov_crossing_4 (by decide) (fun c4 => ?_) (fun c4 => ?_)
    · exact absurd c4 (by decide)
    · refine zi_iload_n O d_Mov_crossing_7 rfl ?_
      refine zi_pureS O [] c_Mov_19 k_Mov_isLabel (m_Mov_isLabel l1) d_Mov_crossing_8 ⟨(Nat.le_of_ble_eq_true rfl), (Nat.le_of_ble_eq_true rfl)⟩ ⟨(Nat.le_of_ble_eq_true rfl), (Nat.le_of_ble_eq_true rfl)⟩ rfl (Nat.le_of_ble_eq_true rfl) rfl rfl rfl rfl rfl (Nat.le_of_ble_eq_true rfl) rfl ?_
      by_cases q1 : okL l1
      · rw [zb_t q1]
        refine zi_if_eq O 34 d_Mov_crossing_11 (by decide) (fun c11 => ?_) (fun c11 => ?_)
        · exact absurd c11 (by decide)
        · refine zi_iload O d_Mov_crossing_14 rfl ?_
          refine zi_pureS O [] c_Mov_19 k_Mov_isLabel (m_Mov_isLabel l2) d_Mov_crossing_16 ⟨(Nat.le_of_ble_eq_true rfl), (Nat.le_of_ble_eq_true rfl)⟩ ⟨(Nat.le_of_ble_eq_true rfl), (Nat.le_of_ble_eq_true rfl)⟩ rfl (Nat.le_of_ble_eq_true rfl) rfl rfl rfl rfl rfl (Nat.le_of_ble_eq_true rfl) rfl ?_
          by_cases q2 : okL l2
          · rw [zb_t q2]
            refine zi_if_eq O 34 d_Mov_crossing_19 (by decide) (fun c19 => ?_) (fun c19 => ?_)
            · exact absurd c19 (by decide)
            · refine zi_iload O d_Mov_crossing_22 rfl ?_
              refine zi_pureS O [] c_Mov_19 k_Mov_isLabel (m_Mov_isLabel l3) d_Mov_crossing_24 ⟨(Nat.le_of_ble_eq_true rfl), (Nat.le_of_ble_eq_true rfl)⟩ ⟨(Nat.le_of_ble_eq_true rfl), (Nat.le_of_ble_eq_true rfl)⟩ rfl (Nat.le_of_ble_eq_true rfl) rfl rfl rfl rfl rfl (Nat.le_of_ble_eq_true rfl) rfl ?_
              by_cases q3 : okL l3
              · rw [zb_t q3]
                refine zi_if_eq O 34 d_Mov_crossing_27 (by decide) (fun c27 => ?_) (fun c27 => ?_)
                · exact absurd c27 (by decide)
                · refine zi_iconstN O 1 d_Mov_crossing_30 (by decide) ?_
                  refine zi_goto O 35 d_Mov_crossing_31 (by decide) ?_
                  refine zi_istore (ls' := _ :: _ :: _ :: _ :: _ :: _ :: some _ :: _) O d_Mov_crossing_35 rfl (by decide) rfl ?_
                  refine zi_iload_n O d_Mov_crossing_37 rfl ?_
                  refine zi_pureS O [] c_Mov_23 k_Mov_isSign (m_Mov_isSign sg) d_Mov_crossing_38 ⟨(Nat.le_of_ble_eq_true rfl), (Nat.le_of_ble_eq_true rfl)⟩ ⟨(Nat.le_of_ble_eq_true rfl), (Nat.le_of_ble_eq_true rfl)⟩ rfl (Nat.le_of_ble_eq_true rfl) rfl rfl rfl rfl rfl (Nat.le_of_ble_eq_true rfl) rfl ?_
                  by_cases hs : sg = nI 1 ∨ sg = -1
                  · rw [zb_t hs]
                    refine zi_if_eq O 62 d_Mov_crossing_41 (by decide) (fun c41 => ?_) (fun c41 => ?_)
                    · exact absurd c41 (by decide)
                    · refine zi_iload O d_Mov_crossing_44 rfl ?_
                      refine zi_if_eq O 62 d_Mov_crossing_46 (by decide) (fun c46 => ?_) (fun c46 => ?_)
                      · exact absurd c46 (by decide)
                      · refine zi_aload_n O d_Mov_crossing_49 rfl ?_
                        refine zi_get O f_Mov_16 d_Mov_crossing_50 rfl rfl ?_
                        refine zi_get O f_Mov_26 d_Mov_crossing_53 rfl rfl ?_
                        refine zi_pureV O [2, 3, 4] c_Mov_30 k_Row_isFull (m_Row_isFull k L' T hk) d_Mov_crossing_56 ⟨(Nat.le_of_ble_eq_true rfl), (Nat.le_of_ble_eq_true rfl)⟩ ⟨(Nat.le_of_ble_eq_true rfl), (Nat.le_of_ble_eq_true rfl)⟩ rfl rfl (Nat.le_of_ble_eq_true rfl) rfl rfl rfl rfl rfl (Nat.le_of_ble_eq_true rfl) rfl ?_
                        by_cases hf : 20 ≤ k
                        · rw [zb_t hf]
                          refine zi_if_eq O 64 d_Mov_crossing_59 (by decide) (fun c59 => ?_) (fun c59 => ?_)
                          · exact absurd c59 (by decide)
                          · refine zi_iconst (v := -1) O d_Mov_crossing_62 (by decide) ?_
                            refine zi_iret O d_Mov_crossing_63 (Nat.le_of_ble_eq_true rfl) (Nat.le_of_ble_eq_true rfl) (Nat.le_of_ble_eq_true rfl) ?_
                            exact Or.inl ⟨fun z => by have := z.2.2; omega, rfl, rfl⟩
                        · rw [zb_f hf]
                          refine zi_if_eq O 64 d_Mov_crossing_59 (by decide) (fun c59 => ?_) (fun c59 => ?_)
                          · refine zi_aload_n O d_Mov_crossing_64 rfl ?_
                            refine zi_get O f_Mov_16 d_Mov_crossing_65 rfl rfl ?_
                            refine zi_get O f_Mov_26 d_Mov_crossing_68 rfl rfl ?_
                            refine zi_iload_n O d_Mov_crossing_71 rfl ?_
                            refine zi_iload_n O d_Mov_crossing_72 rfl ?_
                            refine zi_iload_n O d_Mov_crossing_73 rfl ?_
                            refine zi_iload O d_Mov_crossing_74 rfl ?_
                            refine zi_iload O d_Mov_crossing_76 rfl ?_
                            refine zi_callV O [2, 3, 4] c_Mov_36 k_Row_add (m_Row_add k L' T sg l0 l1 l2 l3 (by omega)) d_Mov_crossing_78 ⟨(Nat.le_of_ble_eq_true rfl), (Nat.le_of_ble_eq_true rfl)⟩ ⟨(Nat.le_of_ble_eq_true rfl), (Nat.le_of_ble_eq_true rfl)⟩ rfl rfl (Nat.le_of_ble_eq_true rfl) rfl rfl rfl rfl rfl (Nat.le_of_ble_eq_true rfl) rfl (fun r h' hq hl => ?_)
                            obtain ⟨rfl, rfl⟩ := hq
                            refine zi_st (st' := []) rfl (zi_h (h' := movH 19 1 (diaH cj (k + 1) (up4 L' k l0 l1 l2 l3) (upd T k sg) m' PL' LB' FR' TO' AT' F' OF' RD' ST' pc' co' OC' CE' SL') (diaH ci n L S m PL LB FR TO AT F OF RD ST pc co OC CE SL)) rfl ?_)
                            refine zi_aload_n O d_Mov_crossing_81 rfl ?_
                            refine zi_get O f_Mov_16 d_Mov_crossing_82 rfl rfl ?_
                            refine zi_get O f_Mov_26 d_Mov_crossing_85 rfl rfl ?_
                            refine zi_get O f_Mov_40 d_Mov_crossing_88 rfl rfl ?_
                            refine zi_iret O d_Mov_crossing_91 (Nat.le_of_ble_eq_true rfl) (Nat.le_of_ble_eq_true rfl) (Nat.le_of_ble_eq_true rfl) ?_
                            obtain ⟨a0, rfl, x0⟩ := okL_nat q0
                            obtain ⟨a1, rfl, x1⟩ := okL_nat q1
                            obtain ⟨a2, rfl, x2⟩ := okL_nat q2
                            obtain ⟨a3, rfl, x3⟩ := okL_nat q3
                            have hR1 : RowOK k L' plab := by
                              obtain ⟨L2, m2, P2, B2, F2, T2, A2, f2, O2, R2, S2, p2, c2, C2, E2, Z2, e2, hR2, -⟩ := hR0
                              simp only [diaH, List.cons.injEq, Sum.inl.injEq, Prod.mk.injEq] at e2
                              obtain ⟨-, -, ⟨-, -, e3⟩, -⟩ := e2
                              rw [e3]; exact hR2
                            have hG1 : Sg k T ∧ ST' 0 = nI 0 := by
                              obtain ⟨L2, m2, P2, B2, F2, T2, A2, f2, O2, R2, S2, p2, c2, C2, E2, Z2, e2, hR2, hG2, hz2⟩ := hR0
                              simp only [diaH, List.cons.injEq, Sum.inl.injEq, Prod.mk.injEq] at e2
                              obtain ⟨-, -, -, -, -, -, -, -, -, -, -, -, -, ⟨-, -, e3⟩, -⟩ := e2
                              rw [e3]; exact ⟨hG2, hz2⟩
                            exact Or.inr ⟨⟨hs, ⟨q0, q1, q2, q3⟩, by omega⟩, rfl, a0, a1, a2, a3, rfl, rfl, rfl, rfl, _, ⟨_, m', PL', LB', FR', TO', AT', F', OF', RD', ST', pc', co', OC', CE', SL', rfl, rowOK_ad hR1 (by omega) x0 x1 x2 x3, sg_add hG1.1 hs, hG1.2⟩, rfl⟩
                          · exact absurd rfl c59
                  · rw [zb_f hs]
                    refine zi_if_eq O 62 d_Mov_crossing_41 (by decide) (fun c41 => ?_) (fun c41 => ?_)
                    · refine zi_iconst (v := -1) O d_Mov_crossing_62 (by decide) ?_
                      refine zi_iret O d_Mov_crossing_63 (Nat.le_of_ble_eq_true rfl) (Nat.le_of_ble_eq_true rfl) (Nat.le_of_ble_eq_true rfl) ?_
                      exact Or.inl ⟨fun z => hs z.1, rfl, rfl⟩
                    · exact absurd rfl c41
              · have hno : ¬ (okL l0 ∧ okL l1 ∧ okL l2 ∧ okL l3) := fun z => q3 z.2.2.2
                rw [zb_f q3]
                refine zi_if_eq O 34 d_Mov_crossing_27 (by decide) (fun c27 => ?_) (fun c27 => ?_)
                · refine zi_iconstN O 0 d_Mov_crossing_34 (by decide) ?_
                  refine zi_istore (ls' := _ :: _ :: _ :: _ :: _ :: _ :: some _ :: _) O d_Mov_crossing_35 rfl (by decide) rfl ?_
                  refine zi_iload_n O d_Mov_crossing_37 rfl ?_
                  refine zi_pureS O [] c_Mov_23 k_Mov_isSign (m_Mov_isSign sg) d_Mov_crossing_38 ⟨(Nat.le_of_ble_eq_true rfl), (Nat.le_of_ble_eq_true rfl)⟩ ⟨(Nat.le_of_ble_eq_true rfl), (Nat.le_of_ble_eq_true rfl)⟩ rfl (Nat.le_of_ble_eq_true rfl) rfl rfl rfl rfl rfl (Nat.le_of_ble_eq_true rfl) rfl ?_
                  by_cases hs : sg = nI 1 ∨ sg = -1
                  · rw [zb_t hs]
                    refine zi_if_eq O 62 d_Mov_crossing_41 (by decide) (fun c41 => ?_) (fun c41 => ?_)
                    · exact absurd c41 (by decide)
                    · refine zi_iload O d_Mov_crossing_44 rfl ?_
                      refine zi_if_eq O 62 d_Mov_crossing_46 (by decide) (fun c46 => ?_) (fun c46 => ?_)
                      · refine zi_iconst (v := -1) O d_Mov_crossing_62 (by decide) ?_
                        refine zi_iret O d_Mov_crossing_63 (Nat.le_of_ble_eq_true rfl) (Nat.le_of_ble_eq_true rfl) (Nat.le_of_ble_eq_true rfl) ?_
                        exact Or.inl ⟨fun z => hno z.2.1, rfl, rfl⟩
                      · exact absurd rfl c46
                  · rw [zb_f hs]
                    refine zi_if_eq O 62 d_Mov_crossing_41 (by decide) (fun c41 => ?_) (fun c41 => ?_)
                    · refine zi_iconst (v := -1) O d_Mov_crossing_62 (by decide) ?_
                      refine zi_iret O d_Mov_crossing_63 (Nat.le_of_ble_eq_true rfl) (Nat.le_of_ble_eq_true rfl) (Nat.le_of_ble_eq_true rfl) ?_
                      exact Or.inl ⟨fun z => hs z.1, rfl, rfl⟩
                    · exact absurd rfl c41
                · exact absurd rfl c27
          · have hno : ¬ (okL l0 ∧ okL l1 ∧ okL l2 ∧ okL l3) := fun z => q2 z.2.2.1
            rw [zb_f q2]
            refine zi_if_eq O 34 d_Mov_crossing_19 (by decide) (fun c19 => ?_) (fun c19 => ?_)
            · refine zi_iconstN O 0 d_Mov_crossing_34 (by decide) ?_
              refine zi_istore (ls' := _ :: _ :: _ :: _ :: _ :: _ :: some _ :: _) O d_Mov_crossing_35 rfl (by decide) rfl ?_
              refine zi_iload_n O d_Mov_crossing_37 rfl ?_
              refine zi_pureS O [] c_Mov_23 k_Mov_isSign (m_Mov_isSign sg) d_Mov_crossing_38 ⟨(Nat.le_of_ble_eq_true rfl), (Nat.le_of_ble_eq_true rfl)⟩ ⟨(Nat.le_of_ble_eq_true rfl), (Nat.le_of_ble_eq_true rfl)⟩ rfl (Nat.le_of_ble_eq_true rfl) rfl rfl rfl rfl rfl (Nat.le_of_ble_eq_true rfl) rfl ?_
              by_cases hs : sg = nI 1 ∨ sg = -1
              · rw [zb_t hs]
                refine zi_if_eq O 62 d_Mov_crossing_41 (by decide) (fun c41 => ?_) (fun c41 => ?_)
                · exact absurd c41 (by decide)
                · refine zi_iload O d_Mov_crossing_44 rfl ?_
                  refine zi_if_eq O 62 d_Mov_crossing_46 (by decide) (fun c46 => ?_) (fun c46 => ?_)
                  · refine zi_iconst (v := -1) O d_Mov_crossing_62 (by decide) ?_
                    refine zi_iret O d_Mov_crossing_63 (Nat.le_of_ble_eq_true rfl) (Nat.le_of_ble_eq_true rfl) (Nat.le_of_ble_eq_true rfl) ?_
                    exact Or.inl ⟨fun z => hno z.2.1, rfl, rfl⟩
                  · exact absurd rfl c46
              · rw [zb_f hs]
                refine zi_if_eq O 62 d_Mov_crossing_41 (by decide) (fun c41 => ?_) (fun c41 => ?_)
                · refine zi_iconst (v := -1) O d_Mov_crossing_62 (by decide) ?_
                  refine zi_iret O d_Mov_crossing_63 (Nat.le_of_ble_eq_true rfl) (Nat.le_of_ble_eq_true rfl) (Nat.le_of_ble_eq_true rfl) ?_
                  exact Or.inl ⟨fun z => hs z.1, rfl, rfl⟩
                · exact absurd rfl c41
            · exact absurd rfl c19
      · have hno : ¬ (okL l0 ∧ okL l1 ∧ okL l2 ∧ okL l3) := fun z => q1 z.2.1
        rw [zb_f q1]
        refine zi_if_eq O 34 d_Mov_crossing_11 (by decide) (fun c11 => ?_) (fun c11 => ?_)
        · refine zi_iconstN O 0 d_Mov_crossing_34 (by decide) ?_
          refine zi_istore (ls' := _ :: _ :: _ :: _ :: _ :: _ :: some _ :: _) O d_Mov_crossing_35 rfl (by decide) rfl ?_
          refine zi_iload_n O d_Mov_crossing_37 rfl ?_
          refine zi_pureS O [] c_Mov_23 k_Mov_isSign (m_Mov_isSign sg) d_Mov_crossing_38 ⟨(Nat.le_of_ble_eq_true rfl), (Nat.le_of_ble_eq_true rfl)⟩ ⟨(Nat.le_of_ble_eq_true rfl), (Nat.le_of_ble_eq_true rfl)⟩ rfl (Nat.le_of_ble_eq_true rfl) rfl rfl rfl rfl rfl (Nat.le_of_ble_eq_true rfl) rfl ?_
          by_cases hs : sg = nI 1 ∨ sg = -1
          · rw [zb_t hs]
            refine zi_if_eq O 62 d_Mov_crossing_41 (by decide) (fun c41 => ?_) (fun c41 => ?_)
            · exact absurd c41 (by decide)
            · refine zi_iload O d_Mov_crossing_44 rfl ?_
              refine zi_if_eq O 62 d_Mov_crossing_46 (by decide) (fun c46 => ?_) (fun c46 => ?_)
              · refine zi_iconst (v := -1) O d_Mov_crossing_62 (by decide) ?_
                refine zi_iret O d_Mov_crossing_63 (Nat.le_of_ble_eq_true rfl) (Nat.le_of_ble_eq_true rfl) (Nat.le_of_ble_eq_true rfl) ?_
                exact Or.inl ⟨fun z => hno z.2.1, rfl, rfl⟩
              · exact absurd rfl c46
          · rw [zb_f hs]
            refine zi_if_eq O 62 d_Mov_crossing_41 (by decide) (fun c41 => ?_) (fun c41 => ?_)
            · refine zi_iconst (v := -1) O d_Mov_crossing_62 (by decide) ?_
              refine zi_iret O d_Mov_crossing_63 (Nat.le_of_ble_eq_true rfl) (Nat.le_of_ble_eq_true rfl) (Nat.le_of_ble_eq_true rfl) ?_
              exact Or.inl ⟨fun z => hs z.1, rfl, rfl⟩
            · exact absurd rfl c41
        · exact absurd rfl c11
  · have hno : ¬ (okL l0 ∧ okL l1 ∧ okL l2 ∧ okL l3) := fun z => q0 z.1
    rw [zb_f q0]
    refine zi_if_eq O 34 d_Mov_crossing_4 (by decide) (fun c4 => ?_) (fun c4 => ?_)
    · refine zi_iconstN O 0 d_Mov_crossing_34 (by decide) ?_
      refine zi_istore (ls' := _ :: _ :: _ :: _ :: _ :: _ :: some _ :: _) O d_Mov_crossing_35 rfl (by decide) rfl ?_
      refine zi_iload_n O d_Mov_crossing_37 rfl ?_
      refine zi_pureS O [] c_Mov_23 k_Mov_isSign (m_Mov_isSign sg) d_Mov_crossing_38 ⟨(Nat.le_of_ble_eq_true rfl), (Nat.le_of_ble_eq_true rfl)⟩ ⟨(Nat.le_of_ble_eq_true rfl), (Nat.le_of_ble_eq_true rfl)⟩ rfl (Nat.le_of_ble_eq_true rfl) rfl rfl rfl rfl rfl (Nat.le_of_ble_eq_true rfl) rfl ?_
      by_cases hs : sg = nI 1 ∨ sg = -1
      · rw [zb_t hs]
        refine zi_if_eq O 62 d_Mov_crossing_41 (by decide) (fun c41 => ?_) (fun c41 => ?_)
        · exact absurd c41 (by decide)
        · refine zi_iload O d_Mov_crossing_44 rfl ?_
          refine zi_if_eq O 62 d_Mov_crossing_46 (by decide) (fun c46 => ?_) (fun c46 => ?_)
          · refine zi_iconst (v := -1) O d_Mov_crossing_62 (by decide) ?_
            refine zi_iret O d_Mov_crossing_63 (Nat.le_of_ble_eq_true rfl) (Nat.le_of_ble_eq_true rfl) (Nat.le_of_ble_eq_true rfl) ?_
            exact Or.inl ⟨fun z => hno z.2.1, rfl, rfl⟩
          · exact absurd rfl c46
      · rw [zb_f hs]
        refine zi_if_eq O 62 d_Mov_crossing_41 (by decide) (fun c41 => ?_) (fun c41 => ?_)
        · refine zi_iconst (v := -1) O d_Mov_crossing_62 (by decide) ?_
          refine zi_iret O d_Mov_crossing_63 (Nat.le_of_ble_eq_true rfl) (Nat.le_of_ble_eq_true rfl) (Nat.le_of_ble_eq_true rfl) ?_
          exact Or.inl ⟨fun z => hs z.1, rfl, rfl⟩
        · exact absurd rfl c41
    · exact absurd rfl c4
/-- crossing -/
theorem m_Mov_crossing {P : List zE → Prop} (hPd : ∀ x, P x → ∃ n lab S ci, Dr n lab S ci x) (hM : Mv P (Dr k plab T cj) h) (sg l0 l1 l2 l3 : Int32) : zMet y_Mov_crossing b_Mov_crossing 7 (some .int) ⟨2, 0, 0, 60⟩ [.ref 0, .int sg, .int l0, .int l1, .int l2, .int l3] h
    (fun r h' => (¬ okC k sg l0 l1 l2 l3 ∧ r = some (.int (-1)) ∧ Mv P (Dr k plab T cj) h') ∨ (okC k sg l0 l1 l2 l3 ∧ r = some (.int (nI (k + 1))) ∧ ∃ a0 a1 a2 a3, l0 = nI a0 ∧ l1 = nI a1 ∧ l2 = nI a2 ∧ l3 = nI a3 ∧ Mv P (Dr (k + 1) (ad4 plab k a0 a1 a2 a3) (upd T k sg) cj) h')) := by
  rcases hM with ⟨hA, hB, hP, hR0, rfl⟩ | ⟨hB, hA, hR0, hP, rfl⟩
  · obtain ⟨n, lab, S, ci, hP0⟩ := hPd _ hP
    have hR1 := hR0
    have hP1 := hP0
    obtain ⟨L, m, PL, LB, FR, TO, AT, F, OF, RD, ST, pc, co, OC, CE, SL, rfl⟩ := dr_form hP0
    obtain ⟨L', m', PL', LB', FR', TO', AT', F', OF', RD', ST', pc', co', OC', CE', SL', rfl⟩ := dr_form hR0
    refine (m_Mov_crossing_1 sg l0 l1 l2 l3 hP1 hR1).mono (fun r h' hq => ?_)
    rcases hq with ⟨q1, q2, rfl⟩ | ⟨q1, q2, a0, a1, a2, a3, e0, e1, e2, e3, hB, q3, rfl⟩
    · exact Or.inl ⟨q1, q2, Or.inl ⟨_, _, hP, hR1, rfl⟩⟩
    · exact Or.inr ⟨q1, q2, a0, a1, a2, a3, e0, e1, e2, e3, Or.inl ⟨_, _, hP, q3, rfl⟩⟩
  · obtain ⟨n, lab, S, ci, hP0⟩ := hPd _ hP
    have hR1 := hR0
    have hP1 := hP0
    obtain ⟨L, m, PL, LB, FR, TO, AT, F, OF, RD, ST, pc, co, OC, CE, SL, rfl⟩ := dr_form hP0
    obtain ⟨L', m', PL', LB', FR', TO', AT', F', OF', RD', ST', pc', co', OC', CE', SL', rfl⟩ := dr_form hR0
    refine (m_Mov_crossing_2 sg l0 l1 l2 l3 hP1 hR1).mono (fun r h' hq => ?_)
    rcases hq with ⟨q1, q2, rfl⟩ | ⟨q1, q2, a0, a1, a2, a3, e0, e1, e2, e3, hB, q3, rfl⟩
    · exact Or.inl ⟨q1, q2, Or.inr ⟨_, _, hR1, hP, rfl⟩⟩
    · exact Or.inr ⟨q1, q2, a0, a1, a2, a3, e0, e1, e2, e3, Or.inr ⟨_, _, q3, hP, rfl⟩⟩
end
