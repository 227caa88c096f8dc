/-! DiagramMoves: undo, slide, twist -/
section
variable {n k : Nat} {lab plab : Nat → Nat} {S T : Nat → Int32} {ci cj : Int32} {el fr to_ at_ oc : Nat → Nat} {h : List zE}
theorem chq_blk {hh blk : List zE} (hC : ChQ n lab S ci hh) (hb : blk.length = 18) : hh.length = blk.length ∧ hh.all (zok blk.length) = true := by
  obtain ⟨L, m, PL, LB, FR, TO, AT, F, OF, RD, ST, pc, co, OC, CE, SL, rfl⟩ := dr_form (chq_dr hC)
  rw [hb]
  exact ⟨rfl, rfl⟩
theorem m_Mov_undo_no_1 {hA hB : List zE} (hP0 : Dia n lab S ci el fr to_ at_ oc hA) (hR0 : Dr k plab T cj hB) (x : Int32) (hx : ¬ (0 ≤ x ∧ x < nI (FF (nxD fr to_ at_) (4 * n) (4 * n)).2)) : zPu y_Mov_undo b_Mov_undo 2 (some .int) ⟨6, 0, 0, 170⟩ [.ref 0, .int x] (movH 1 19 hA hB) (.int (nI 0)) := by
  have hPk := hP0
  have hRk := hR0
  obtain ⟨L, PL, LB, FR, TO, AT, OF, RD, ST, OC, CE, SL, rfl, hR, hG, hz, hE, hA, hRd, hO, hP, hOF⟩ := hP0
  have hn := hR.1
  have hFF := ff_le (by omega) (perm_D hE) (Nat.le_refl (4 * n))
  obtain ⟨L', m', PL', LB', FR', TO', AT', F', OF', RD', ST', pc', co', OC', CE', SL', rfl, hR', hG', hz'⟩ := hR0
  refine zMet_of (plainFor_of_name (by decide +kernel)) rfl (Nat.le_of_ble_eq_true rfl) (fun z1 z2 z3 z4 z5 z6 z7 z8 z9 z10 z11 z12 z13 z14 O hin => ?_)
  refine zi_ls (ls' := [some (.ref 0), some (.int x)]) rfl ?_
  refine zi_aload_n O d_Mov_undo_0 rfl ?_
  refine zi_get O f_Mov_12 d_Mov_undo_1 rfl rfl ?_
  refine zi_get O f_Mov_54 d_Mov_undo_4 rfl rfl ?_
  refine zi_iload_n O d_Mov_undo_7 rfl ?_
  refine zi_pureV O [11, 12, 13, 14] c_Mov_88 k_Fac_has (m_Fac_has (FF (nxD fr to_ at_) (4 * n) (4 * n)).2 OF RD ST x) d_Mov_undo_8 ⟨(Nat.le_of_ble_eq_true rfl), (Nat.le_of_ble_eq_true rfl)⟩ ⟨(Nat.le_of_ble_eq_true rfl), (Nat.le_of_ble_eq_true rfl)⟩ rfl rfl (Nat.le_of_ble_eq_true rfl) rfl rfl rfl rfl rfl (Nat.le_of_ble_eq_true rfl) rfl ?_
  rw [zb_f hx]
  refine zi_if_eq O 25 d_Mov_undo_11 (by decide) (fun c11 => ?_) (fun c11 => ?_)
  · refine zi_iconstN O 0 d_Mov_undo_25 (by decide) ?_
    refine zi_iret O d_Mov_undo_26 (Nat.le_of_ble_eq_true rfl) (Nat.le_of_ble_eq_true rfl) (Nat.le_of_ble_eq_true rfl) ?_
    exact ⟨rfl, rfl⟩
  · exact absurd rfl c11
theorem m_Mov_undo_0_1 {hA hB : List zE} (hP0 : Dia n lab S ci el fr to_ at_ oc hA) (hR0 : Dr k plab T cj hB) (j l t : Nat) (hj : j < (FF (nxD fr to_ at_) (4 * n) (4 * n)).2) (hF : FaceK n (nxD fr to_ at_) j l t) (hp : ¬ (pat fr to_ (nxD fr to_ at_) l t = 1 ∨ pat fr to_ (nxD fr to_ at_) l t = 2)) : zPu y_Mov_undo b_Mov_undo 2 (some .int) ⟨6, 0, 0, 170⟩ [.ref 0, .int (nI j)] (movH 1 19 hA hB) (.int (nI 0)) := by
  have hPk := hP0
  have hRk := hR0
  obtain ⟨L, PL, LB, FR, TO, AT, OF, RD, ST, OC, CE, SL, rfl, hR, hG, hz, hE, hA, hRd, hO, hP, hOF⟩ := hP0
  have hn := hR.1
  have hFF := ff_le (by omega) (perm_D hE) (Nat.le_refl (4 * n))
  obtain ⟨L', m', PL', LB', FR', TO', AT', F', OF', RD', ST', pc', co', OC', CE', SL', rfl, hR', hG', hz'⟩ := hR0
  refine zMet_of (plainFor_of_name (by decide +kernel)) rfl (Nat.le_of_ble_eq_true rfl) (fun z1 z2 z3 z4 z5 z6 z7 z8 z9 z10 z11 z12 z13 z14 O hin => ?_)
  refine zi_ls (ls' := [some (.ref 0), some (.int (nI j))]) rfl ?_
  refine zi_aload_n O d_Mov_undo_0 rfl ?_
  refine zi_get O f_Mov_12 d_Mov_undo_1 rfl rfl ?_
  refine zi_get O f_Mov_54 d_Mov_undo_4 rfl rfl ?_
  refine zi_iload_n O d_Mov_undo_7 rfl ?_
  refine zi_pureV O [11, 12, 13, 14] c_Mov_88 k_Fac_has (m_Fac_has (FF (nxD fr to_ at_) (4 * n) (4 * n)).2 OF RD ST (nI j)) d_Mov_undo_8 ⟨(Nat.le_of_ble_eq_true rfl), (Nat.le_of_ble_eq_true rfl)⟩ ⟨(Nat.le_of_ble_eq_true rfl), (Nat.le_of_ble_eq_true rfl)⟩ rfl rfl (Nat.le_of_ble_eq_true rfl) rfl rfl rfl rfl rfl (Nat.le_of_ble_eq_true rfl) rfl ?_
  rw [zb_t ⟨nI_pos' (by omega), nI_lt hj (by omega)⟩]
  refine zi_if_eq O 25 d_Mov_undo_11 (by decide) (fun c11 => ?_) (fun c11 => ?_)
  · exact absurd c11 (by decide)
  · refine zi_aload_n O d_Mov_undo_14 rfl ?_
    refine zi_get O f_Mov_12 d_Mov_undo_15 rfl rfl ?_
    refine zi_iload_n O d_Mov_undo_18 rfl ?_
    refine zi_blkP O 1 ([zo 0 [.ref 1, .ref 19]]) (diaH ci n L S (2 * n) PL LB FR TO AT (FF (nxD fr to_ at_) (4 * n) (4 * n)).2 OF RD ST (rc oc n) (FF (nxE to_ at_) (2 * n) (2 * n)).2 OC CE SL) ((diaH cj k L' T m' PL' LB' FR' TO' AT' F' OF' RD' ST' pc' co' OC' CE' SL').map (zc (fun q => q + 19))) rfl rfl c_Mov_104 k_Dia_undoAt (m_Dia_undoAt_no hPk j l t hj hF hp) d_Mov_undo_19 ⟨(Nat.le_of_ble_eq_true rfl), (Nat.le_of_ble_eq_true rfl)⟩ ⟨(Nat.le_of_ble_eq_true rfl), (Nat.le_of_ble_eq_true rfl)⟩ rfl rfl (Nat.le_of_ble_eq_true rfl) rfl rfl rfl (Nat.le_of_ble_eq_true rfl) rfl rfl rfl ?_
    refine zi_goto O 26 d_Mov_undo_22 (by decide) ?_
    refine zi_iret O d_Mov_undo_26 (Nat.le_of_ble_eq_true rfl) (Nat.le_of_ble_eq_true rfl) (Nat.le_of_ble_eq_true rfl) ?_
    exact ⟨rfl, rfl⟩
set_option maxHeartbeats 1000000 in
theorem m_Mov_undo_1_1 {hA hB : List zE} (hP0 : Dia n lab S ci el fr to_ at_ oc hA) (hR0 : Dr k plab T cj hB) (j l t : Nat) (hj : j < (FF (nxD fr to_ at_) (4 * n) (4 * n)).2) (hF : FaceK n (nxD fr to_ at_) j l t) (hp : pat fr to_ (nxD fr to_ at_) l t = 1) : zMet y_Mov_undo b_Mov_undo 2 (some .int) ⟨6, 0, 0, 170⟩ [.ref 0, .int (nI j)] (movH 1 19 hA hB) (fun r h' => r = some (.int (nI 1)) ∧ Mv (ChQ (n - 1) (lfL lab S (ca fr to_ l)) (rmS S n (ca fr to_ l)) (lfC lab S (ca fr to_ l) ci)) (Dr k plab T cj) h') := by
  have hPk := hP0
  have hRk := hR0
  obtain ⟨L, PL, LB, FR, TO, AT, OF, RD, ST, OC, CE, SL, rfl, hR, hG, hz, hE, hA, hRd, hO, hP, hOF⟩ := hP0
  have hn := hR.1
  have hFF := ff_le (by omega) (perm_D hE) (Nat.le_refl (4 * n))
  obtain ⟨L', m', PL', LB', FR', TO', AT', F', OF', RD', ST', pc', co', OC', CE', SL', rfl, hR', hG', hz'⟩ := hR0
  refine zMet_of (plainFor_of_name (by decide +kernel)) rfl (Nat.le_of_ble_eq_true rfl) (fun z1 z2 z3 z4 z5 z6 z7 z8 z9 z10 z11 z12 z13 z14 O hin => ?_)
  refine zi_ls (ls' := [some (.ref 0), some (.int (nI j))]) rfl ?_
  refine zi_aload_n O d_Mov_undo_0 rfl ?_
  refine zi_get O f_Mov_12 d_Mov_undo_1 rfl rfl ?_
  refine zi_get O f_Mov_54 d_Mov_undo_4 rfl rfl ?_
  refine zi_iload_n O d_Mov_undo_7 rfl ?_
  refine zi_pureV O [11, 12, 13, 14] c_Mov_88 k_Fac_has (m_Fac_has (FF (nxD fr to_ at_) (4 * n) (4 * n)).2 OF RD ST (nI j)) d_Mov_undo_8 ⟨(Nat.le_of_ble_eq_true rfl), (Nat.le_of_ble_eq_true rfl)⟩ ⟨(Nat.le_of_ble_eq_true rfl), (Nat.le_of_ble_eq_true rfl)⟩ rfl rfl (Nat.le_of_ble_eq_true rfl) rfl rfl rfl rfl rfl (Nat.le_of_ble_eq_true rfl) rfl ?_
  rw [zb_t ⟨nI_pos' (by omega), nI_lt hj (by omega)⟩]
  refine zi_if_eq O 25 d_Mov_undo_11 (by decide) (fun c11 => ?_) (fun c11 => ?_)
  · exact absurd c11 (by decide)
  · refine zi_aload_n O d_Mov_undo_14 rfl ?_
    refine zi_get O f_Mov_12 d_Mov_undo_15 rfl rfl ?_
    refine zi_iload_n O d_Mov_undo_18 rfl ?_
    refine zi_blkV O 1 ([zo 0 [.ref 1, .ref 19]]) (diaH ci n L S (2 * n) PL LB FR TO AT (FF (nxD fr to_ at_) (4 * n) (4 * n)).2 OF RD ST (rc oc n) (FF (nxE to_ at_) (2 * n) (2 * n)).2 OC CE SL) ((diaH cj k L' T m' PL' LB' FR' TO' AT' F' OF' RD' ST' pc' co' OC' CE' SL').map (zc (fun q => q + 19))) rfl rfl c_Mov_104 k_Dia_undoAt (m_Dia_undoAt_1 hPk j l t hj hF hp) d_Mov_undo_19 ⟨(Nat.le_of_ble_eq_true rfl), (Nat.le_of_ble_eq_true rfl)⟩ ⟨(Nat.le_of_ble_eq_true rfl), (Nat.le_of_ble_eq_true rfl)⟩ rfl rfl (Nat.le_of_ble_eq_true rfl) rfl rfl rfl (Nat.le_of_ble_eq_true rfl) rfl rfl (fun r h' hq => ?_) rfl (fun r h' hq => ?_)
    · exact chq_blk hq.2 rfl
    · obtain ⟨rfl, hC⟩ := hq
      have hC1 := hC
      obtain ⟨X1, x2, X3, X4, X5, X6, X7, x8, X9, X10, X11, x12, x13, X14, X15, X16, rfl⟩ := dr_form (chq_dr hC1)
      refine zi_st (st' := [.int (nI 1)]) rfl (zi_h (h' := movH 1 19 (diaH (lfC lab S (ca fr to_ l) ci) (n - 1) X1 (rmS S n (ca fr to_ l)) x2 X3 X4 X5 X6 X7 x8 X9 X10 X11 x12 x13 X14 X15 X16) (diaH cj k L' T m' PL' LB' FR' TO' AT' F' OF' RD' ST' pc' co' OC' CE' SL')) rfl ?_)
      refine zi_goto O 26 d_Mov_undo_22 (by decide) ?_
      refine zi_iret O d_Mov_undo_26 (Nat.le_of_ble_eq_true rfl) (Nat.le_of_ble_eq_true rfl) (Nat.le_of_ble_eq_true rfl) ?_
      exact ⟨rfl, Or.inl ⟨_, _, hC, hRk, rfl⟩⟩
set_option maxHeartbeats 1000000 in
theorem m_Mov_undo_2_1 {hA hB : List zE} (hP0 : Dia n lab S ci el fr to_ at_ oc hA) (hR0 : Dr k plab T cj hB) (j l t : Nat) (hj : j < (FF (nxD fr to_ at_) (4 * n) (4 * n)).2) (hF : FaceK n (nxD fr to_ at_) j l t) (a b : Nat) (hp : pat fr to_ (nxD fr to_ at_) l t = 2) (ha : a = mn (ca fr to_ l) (ca fr to_ (nxD fr to_ at_ l))) (hb : b = mx (ca fr to_ l) (ca fr to_ (nxD fr to_ at_ l)) - 1) : zMet y_Mov_undo b_Mov_undo 2 (some .int) ⟨6, 0, 0, 170⟩ [.ref 0, .int (nI j)] (movH 1 19 hA hB) (fun r h' => r = some (.int (nI 2)) ∧ a < n ∧ b < n - 1 ∧ Mv (ChQ (n - 1 - 1) (lfL (lfL lab S a) (rmS S n a) b) (rmS (rmS S n a) (n - 1) b) (lfC (lfL lab S a) (rmS S n a) b (lfC lab S a ci))) (Dr k plab T cj) h') := by
  have hPk := hP0
  have hRk := hR0
  obtain ⟨L, PL, LB, FR, TO, AT, OF, RD, ST, OC, CE, SL, rfl, hR, hG, hz, hE, hA, hRd, hO, hP, hOF⟩ := hP0
  have hn := hR.1
  have hFF := ff_le (by omega) (perm_D hE) (Nat.le_refl (4 * n))
  obtain ⟨L', m', PL', LB', FR', TO', AT', F', OF', RD', ST', pc', co', OC', CE', SL', rfl, hR', hG', hz'⟩ := hR0
  refine zMet_of (plainFor_of_name (by decide +kernel)) rfl (Nat.le_of_ble_eq_true rfl) (fun z1 z2 z3 z4 z5 z6 z7 z8 z9 z10 z11 z12 z13 z14 O hin => ?_)
  refine zi_ls (ls' := [some (.ref 0), some (.int (nI j))]) rfl ?_
  refine zi_aload_n O d_Mov_undo_0 rfl ?_
  refine zi_get O f_Mov_12 d_Mov_undo_1 rfl rfl ?_
  refine zi_get O f_Mov_54 d_Mov_undo_4 rfl rfl ?_
  refine zi_iload_n O d_Mov_undo_7 rfl ?_
  refine zi_pureV O [11, 12, 13, 14] c_Mov_88 k_Fac_has (m_Fac_has (FF (nxD fr to_ at_) (4 * n) (4 * n)).2 OF RD ST (nI j)) d_Mov_undo_8 ⟨(Nat.le_of_ble_eq_true rfl), (Nat.le_of_ble_eq_true rfl)⟩ ⟨(Nat.le_of_ble_eq_true rfl), (Nat.le_of_ble_eq_true rfl)⟩ rfl rfl (Nat.le_of_ble_eq_true rfl) rfl rfl rfl rfl rfl (Nat.le_of_ble_eq_true rfl) rfl ?_
  rw [zb_t ⟨nI_pos' (by omega), nI_lt hj (by omega)⟩]
  refine zi_if_eq O 25 d_Mov_undo_11 (by decide) (fun c11 => ?_) (fun c11 => ?_)
  · exact absurd c11 (by decide)
  · refine zi_aload_n O d_Mov_undo_14 rfl ?_
    refine zi_get O f_Mov_12 d_Mov_undo_15 rfl rfl ?_
    refine zi_iload_n O d_Mov_undo_18 rfl ?_
    refine zi_blkV O 1 ([zo 0 [.ref 1, .ref 19]]) (diaH ci n L S (2 * n) PL LB FR TO AT (FF (nxD fr to_ at_) (4 * n) (4 * n)).2 OF RD ST (rc oc n) (FF (nxE to_ at_) (2 * n) (2 * n)).2 OC CE SL) ((diaH cj k L' T m' PL' LB' FR' TO' AT' F' OF' RD' ST' pc' co' OC' CE' SL').map (zc (fun q => q + 19))) rfl rfl c_Mov_104 k_Dia_undoAt (m_Dia_undoAt_2 hPk j l t a b hj hF hp ha hb) d_Mov_undo_19 ⟨(Nat.le_of_ble_eq_true rfl), (Nat.le_of_ble_eq_true rfl)⟩ ⟨(Nat.le_of_ble_eq_true rfl), (Nat.le_of_ble_eq_true rfl)⟩ rfl rfl (Nat.le_of_ble_eq_true rfl) rfl rfl rfl (Nat.le_of_ble_eq_true rfl) rfl rfl (fun r h' hq => ?_) rfl (fun r h' hq => ?_)
    · exact chq_blk hq.2.2.2 rfl
    · obtain ⟨rfl, han, hbn, hC⟩ := hq
      have hC1 := hC
      obtain ⟨X1, x2, X3, X4, X5, X6, X7, x8, X9, X10, X11, x12, x13, X14, X15, X16, rfl⟩ := dr_form (chq_dr hC1)
      refine zi_st (st' := [.int (nI 2)]) rfl (zi_h (h' := movH 1 19 (diaH (lfC (lfL lab S a) (rmS S n a) b (lfC lab S a ci)) (n - 1 - 1) X1 (rmS (rmS S n a) (n - 1) b) x2 X3 X4 X5 X6 X7 x8 X9 X10 X11 x12 x13 X14 X15 X16) (diaH cj k L' T m' PL' LB' FR' TO' AT' F' OF' RD' ST' pc' co' OC' CE' SL')) rfl ?_)
      refine zi_goto O 26 d_Mov_undo_22 (by decide) ?_
      refine zi_iret O d_Mov_undo_26 (Nat.le_of_ble_eq_true rfl) (Nat.le_of_ble_eq_true rfl) (Nat.le_of_ble_eq_true rfl) ?_
      exact ⟨rfl, han, hbn, Or.inl ⟨_, _, hC, hRk, rfl⟩⟩
theorem m_Mov_slide_no_1 {hA hB : List zE} (hP0 : Dia n lab S ci el fr to_ at_ oc hA) (hR0 : Dr k plab T cj hB) (x : Int32) (hx : ¬ (0 ≤ x ∧ x < nI (FF (nxD fr to_ at_) (4 * n) (4 * n)).2)) : zPu y_Mov_slide b_Mov_slide 2 (some .boolean) ⟨6, 0, 0, 170⟩ [.ref 0, .int x] (movH 1 19 hA hB) (.int (nI 0)) := by
  have hPk := hP0
  have hRk := hR0
  obtain ⟨L, PL, LB, FR, TO, AT, OF, RD, ST, OC, CE, SL, rfl, hR, hG, hz, hE, hA, hRd, hO, hP, hOF⟩ := hP0
  have hn := hR.1
  have hFF := ff_le (by omega) (perm_D hE) (Nat.le_refl (4 * n))
  obtain ⟨L', m', PL', LB', FR', TO', AT', F', OF', RD', ST', pc', co', OC', CE', SL', rfl, hR', hG', hz'⟩ := hR0
  refine zMet_of (plainFor_of_name (by decide +kernel)) rfl (Nat.le_of_ble_eq_true rfl) (fun z1 z2 z3 z4 z5 z6 z7 z8 z9 z10 z11 z12 z13 z14 O hin => ?_)
  refine zi_ls (ls' := [some (.ref 0), some (.int x)]) rfl ?_
  refine zi_aload_n O d_Mov_slide_0 rfl ?_
  refine zi_get O f_Mov_12 d_Mov_slide_1 rfl rfl ?_
  refine zi_get O f_Mov_54 d_Mov_slide_4 rfl rfl ?_
  refine zi_iload_n O d_Mov_slide_7 rfl ?_
  refine zi_pureV O [11, 12, 13, 14] c_Mov_88 k_Fac_has (m_Fac_has (FF (nxD fr to_ at_) (4 * n) (4 * n)).2 OF RD ST x) d_Mov_slide_8 ⟨(Nat.le_of_ble_eq_true rfl), (Nat.le_of_ble_eq_true rfl)⟩ ⟨(Nat.le_of_ble_eq_true rfl), (Nat.le_of_ble_eq_true rfl)⟩ rfl rfl (Nat.le_of_ble_eq_true rfl) rfl rfl rfl rfl rfl (Nat.le_of_ble_eq_true rfl) rfl ?_
  rw [zb_f hx]
  refine zi_if_eq O 29 d_Mov_slide_11 (by decide) (fun c11 => ?_) (fun c11 => ?_)
  · refine zi_iconstN O 0 d_Mov_slide_29 (by decide) ?_
    refine zi_zret O d_Mov_slide_30 rfl (Nat.le_of_ble_eq_true rfl) (Nat.le_of_ble_eq_true rfl) (Nat.le_of_ble_eq_true rfl) ?_
    exact ⟨rfl, rfl⟩
  · exact absurd rfl c11
theorem m_Mov_slide_0_1 {hA hB : List zE} (hP0 : Dia n lab S ci el fr to_ at_ oc hA) (hR0 : Dr k plab T cj hB) (j l t : Nat) (hj : j < (FF (nxD fr to_ at_) (4 * n) (4 * n)).2) (hF : FaceK n (nxD fr to_ at_) j l t) (hp : pat fr to_ (nxD fr to_ at_) l t ≠ 3) : zPu y_Mov_slide b_Mov_slide 2 (some .boolean) ⟨6, 0, 0, 170⟩ [.ref 0, .int (nI j)] (movH 1 19 hA hB) (.int (nI 0)) := by
  have hPk := hP0
  have hRk := hR0
  obtain ⟨L, PL, LB, FR, TO, AT, OF, RD, ST, OC, CE, SL, rfl, hR, hG, hz, hE, hA, hRd, hO, hP, hOF⟩ := hP0
  have hn := hR.1
  have hFF := ff_le (by omega) (perm_D hE) (Nat.le_refl (4 * n))
  obtain ⟨L', m', PL', LB', FR', TO', AT', F', OF', RD', ST', pc', co', OC', CE', SL', rfl, hR', hG', hz'⟩ := hR0
  refine zMet_of (plainFor_of_name (by decide +kernel)) rfl (Nat.le_of_ble_eq_true rfl) (fun z1 z2 z3 z4 z5 z6 z7 z8 z9 z10 z11 z12 z13 z14 O hin => ?_)
  refine zi_ls (ls' := [some (.ref 0), some (.int (nI j))]) rfl ?_
  refine zi_aload_n O d_Mov_slide_0 rfl ?_
  refine zi_get O f_Mov_12 d_Mov_slide_1 rfl rfl ?_
  refine zi_get O f_Mov_54 d_Mov_slide_4 rfl rfl ?_
  refine zi_iload_n O d_Mov_slide_7 rfl ?_
  refine zi_pureV O [11, 12, 13, 14] c_Mov_88 k_Fac_has (m_Fac_has (FF (nxD fr to_ at_) (4 * n) (4 * n)).2 OF RD ST (nI j)) d_Mov_slide_8 ⟨(Nat.le_of_ble_eq_true rfl), (Nat.le_of_ble_eq_true rfl)⟩ ⟨(Nat.le_of_ble_eq_true rfl), (Nat.le_of_ble_eq_true rfl)⟩ rfl rfl (Nat.le_of_ble_eq_true rfl) rfl rfl rfl rfl rfl (Nat.le_of_ble_eq_true rfl) rfl ?_
  rw [zb_t ⟨nI_pos' (by omega), nI_lt hj (by omega)⟩]
  refine zi_if_eq O 29 d_Mov_slide_11 (by decide) (fun c11 => ?_) (fun c11 => ?_)
  · exact absurd c11 (by decide)
  · refine zi_aload_n O d_Mov_slide_14 rfl ?_
    refine zi_get O f_Mov_12 d_Mov_slide_15 rfl rfl ?_
    refine zi_iload_n O d_Mov_slide_18 rfl ?_
    refine zi_blkP O 1 ([zo 0 [.ref 1, .ref 19]]) (diaH ci n L S (2 * n) PL LB FR TO AT (FF (nxD fr to_ at_) (4 * n) (4 * n)).2 OF RD ST (rc oc n) (FF (nxE to_ at_) (2 * n) (2 * n)).2 OC CE SL) ((diaH cj k L' T m' PL' LB' FR' TO' AT' F' OF' RD' ST' pc' co' OC' CE' SL').map (zc (fun q => q + 19))) rfl rfl c_Mov_107 k_Dia_slideAt (m_Dia_slideAt_no hPk j l t hj hF hp) d_Mov_slide_19 ⟨(Nat.le_of_ble_eq_true rfl), (Nat.le_of_ble_eq_true rfl)⟩ ⟨(Nat.le_of_ble_eq_true rfl), (Nat.le_of_ble_eq_true rfl)⟩ rfl rfl (Nat.le_of_ble_eq_true rfl) rfl rfl rfl (Nat.le_of_ble_eq_true rfl) rfl rfl rfl ?_
    refine zi_if_eq O 29 d_Mov_slide_22 (by decide) (fun c22 => ?_) (fun c22 => ?_)
    · refine zi_iconstN O 0 d_Mov_slide_29 (by decide) ?_
      refine zi_zret O d_Mov_slide_30 rfl (Nat.le_of_ble_eq_true rfl) (Nat.le_of_ble_eq_true rfl) (Nat.le_of_ble_eq_true rfl) ?_
      exact ⟨rfl, rfl⟩
    · exact absurd rfl c22
set_option maxHeartbeats 1000000 in
theorem m_Mov_slide_3_1 {hA hB : List zE} (hP0 : Dia n lab S ci el fr to_ at_ oc hA) (hR0 : Dr k plab T cj hB) (j l t : Nat) (hj : j < (FF (nxD fr to_ at_) (4 * n) (4 * n)).2) (hF : FaceK n (nxD fr to_ at_) j l t) (hp : pat fr to_ (nxD fr to_ at_) l t = 3) : zMet y_Mov_slide b_Mov_slide 2 (some .boolean) ⟨6, 0, 0, 170⟩ [.ref 0, .int (nI j)] (movH 1 19 hA hB) (fun r h' => r = some (.int (nI 1)) ∧ t = 3 ∧ Mv (ChQ n (sl3 el fr to_ lab (l / 2) (nxD fr to_ at_ l / 2) (nxD fr to_ at_ (nxD fr to_ at_ l) / 2)) S ci) (Dr k plab T cj) h') := by
  have hPk := hP0
  have hRk := hR0
  obtain ⟨L, PL, LB, FR, TO, AT, OF, RD, ST, OC, CE, SL, rfl, hR, hG, hz, hE, hA, hRd, hO, hP, hOF⟩ := hP0
  have hn := hR.1
  have hFF := ff_le (by omega) (perm_D hE) (Nat.le_refl (4 * n))
  obtain ⟨L', m', PL', LB', FR', TO', AT', F', OF', RD', ST', pc', co', OC', CE', SL', rfl, hR', hG', hz'⟩ := hR0
  refine zMet_of (plainFor_of_name (by decide +kernel)) rfl (Nat.le_of_ble_eq_true rfl) (fun z1 z2 z3 z4 z5 z6 z7 z8 z9 z10 z11 z12 z13 z14 O hin => ?_)
  refine zi_ls (ls' := [some (.ref 0), some (.int (nI j))]) rfl ?_
  refine zi_aload_n O d_Mov_slide_0 rfl ?_
  refine zi_get O f_Mov_12 d_Mov_slide_1 rfl rfl ?_
  refine zi_get O f_Mov_54 d_Mov_slide_4 rfl rfl ?_
  refine zi_iload_n O d_Mov_slide_7 rfl ?_
  refine zi_pureV O [11, 12, 13, 14] c_Mov_88 k_Fac_has (m_Fac_has (FF (nxD fr to_ at_) (4 * n) (4 * n)).2 OF RD ST (nI j)) d_Mov_slide_8 ⟨(Nat.le_of_ble_eq_true rfl), (Nat.le_of_ble_eq_true rfl)⟩ ⟨(Nat.le_of_ble_eq_true rfl), (Nat.le_of_ble_eq_true rfl)⟩ rfl rfl (Nat.le_of_ble_eq_true rfl) rfl rfl rfl rfl rfl (Nat.le_of_ble_eq_true rfl) rfl ?_
  rw [zb_t ⟨nI_pos' (by omega), nI_lt hj (by omega)⟩]
  refine zi_if_eq O 29 d_Mov_slide_11 (by decide) (fun c11 => ?_) (fun c11 => ?_)
  · exact absurd c11 (by decide)
  · refine zi_aload_n O d_Mov_slide_14 rfl ?_
    refine zi_get O f_Mov_12 d_Mov_slide_15 rfl rfl ?_
    refine zi_iload_n O d_Mov_slide_18 rfl ?_
    refine zi_blkV O 1 ([zo 0 [.ref 1, .ref 19]]) (diaH ci n L S (2 * n) PL LB FR TO AT (FF (nxD fr to_ at_) (4 * n) (4 * n)).2 OF RD ST (rc oc n) (FF (nxE to_ at_) (2 * n) (2 * n)).2 OC CE SL) ((diaH cj k L' T m' PL' LB' FR' TO' AT' F' OF' RD' ST' pc' co' OC' CE' SL').map (zc (fun q => q + 19))) rfl rfl c_Mov_107 k_Dia_slideAt (m_Dia_slideAt hPk j l t hj hF hp) d_Mov_slide_19 ⟨(Nat.le_of_ble_eq_true rfl), (Nat.le_of_ble_eq_true rfl)⟩ ⟨(Nat.le_of_ble_eq_true rfl), (Nat.le_of_ble_eq_true rfl)⟩ rfl rfl (Nat.le_of_ble_eq_true rfl) rfl rfl rfl (Nat.le_of_ble_eq_true rfl) rfl rfl (fun r h' hq => ?_) rfl (fun r h' hq => ?_)
    · exact chq_blk hq.2.2 rfl
    · obtain ⟨rfl, ht3, hC⟩ := hq
      have hC1 := hC
      obtain ⟨X1, x2, X3, X4, X5, X6, X7, x8, X9, X10, X11, x12, x13, X14, X15, X16, rfl⟩ := dr_form (chq_dr hC1)
      refine zi_st (st' := [.int (nI 1)]) rfl (zi_h (h' := movH 1 19 (diaH ci n X1 S x2 X3 X4 X5 X6 X7 x8 X9 X10 X11 x12 x13 X14 X15 X16) (diaH cj k L' T m' PL' LB' FR' TO' AT' F' OF' RD' ST' pc' co' OC' CE' SL')) rfl ?_)
      refine zi_if_eq O 29 d_Mov_slide_22 (by decide) (fun c22 => ?_) (fun c22 => ?_)
      · exact absurd c22 (by decide)
      · refine zi_iconstN O 1 d_Mov_slide_25 (by decide) ?_
        refine zi_goto O 30 d_Mov_slide_26 (by decide) ?_
        refine zi_zret O d_Mov_slide_30 rfl (Nat.le_of_ble_eq_true rfl) (Nat.le_of_ble_eq_true rfl) (Nat.le_of_ble_eq_true rfl) ?_
        exact ⟨rfl, ht3, Or.inl ⟨_, _, hC, hRk, rfl⟩⟩
theorem m_Mov_twist_no_1 {hA hB : List zE} (hP0 : Dia n lab S ci el fr to_ at_ oc hA) (hR0 : Dr k plab T cj hB) (x sg y : Int32) (hx : ¬ (sg = nI 1 ∨ sg = -1) ∨ 20 ≤ n ∨ (x = 0 ∧ ¬ 0 < ci) ∨ (¬ x = 0 ∧ ∀ e, e < 2 * n → ¬ nI (el e) = x)) : zPu y_Mov_twist b_Mov_twist 4 (some .boolean) ⟨7, 0, 0, 200⟩ [.ref 0, .int x, .int sg, .int y] (movH 1 19 hA hB) (.int (nI 0)) := by
  have hPk := hP0
  have hRk := hR0
  obtain ⟨L, PL, LB, FR, TO, AT, OF, RD, ST, OC, CE, SL, rfl, hR, hG, hz, hE, hA, hRd, hO, hP, hOF⟩ := hP0
  have hn := hR.1
  have hFF := ff_le (by omega) (perm_D hE) (Nat.le_refl (4 * n))
  obtain ⟨L', m', PL', LB', FR', TO', AT', F', OF', RD', ST', pc', co', OC', CE', SL', rfl, hR', hG', hz'⟩ := hR0
  refine zMet_of (plainFor_of_name (by decide +kernel)) rfl (Nat.le_of_ble_eq_true rfl) (fun z1 z2 z3 z4 z5 z6 z7 z8 z9 z10 z11 z12 z13 z14 O hin => ?_)
  refine zi_ls (ls' := [some (.ref 0), some (.int x), some (.int sg), some (.int y)]) rfl ?_
  refine zi_iload_n O d_Mov_twist_0 rfl ?_
  refine zi_pureS O [] c_Mov_23 k_Mov_isSign (m_Mov_isSign sg) d_Mov_twist_1 ⟨(Nat.le_of_ble_eq_true rfl), (Nat.le_of_ble_eq_true rfl)⟩ ⟨(Nat.le_of_ble_eq_true rfl), (Nat.le_of_ble_eq_true rfl)⟩ rfl (Nat.le_of_ble_eq_true rfl) rfl rfl rfl rfl rfl (Nat.le_of_ble_eq_true rfl) rfl ?_
  by_cases hs : sg = nI 1 ∨ sg = -1
  · rw [zb_t hs]
    refine zi_if_eq O 20 d_Mov_twist_4 (by decide) (fun c4 => ?_) (fun c4 => ?_)
    · exact absurd c4 (by decide)
    · refine zi_aload_n O d_Mov_twist_7 rfl ?_
      refine zi_get O f_Mov_12 d_Mov_twist_8 rfl rfl ?_
      refine zi_get O f_Mov_26 d_Mov_twist_11 rfl rfl ?_
      refine zi_pureV O [2, 3, 4] c_Mov_30 k_Row_isFull (m_Row_isFull n L S hn) d_Mov_twist_14 ⟨(Nat.le_of_ble_eq_true rfl), (Nat.le_of_ble_eq_true rfl)⟩ ⟨(Nat.le_of_ble_eq_true rfl), (Nat.le_of_ble_eq_true rfl)⟩ rfl rfl (Nat.le_of_ble_eq_true rfl) rfl rfl rfl rfl rfl (Nat.le_of_ble_eq_true rfl) rfl ?_
      by_cases hf : 20 ≤ n
      · rw [zb_t hf]
        refine zi_if_eq O 22 d_Mov_twist_17 (by decide) (fun c17 => ?_) (fun c17 => ?_)
        · exact absurd c17 (by decide)
        · refine zi_iconstN O 0 d_Mov_twist_20 (by decide) ?_
          refine zi_zret O d_Mov_twist_21 rfl (Nat.le_of_ble_eq_true rfl) (Nat.le_of_ble_eq_true rfl) (Nat.le_of_ble_eq_true rfl) ?_
          exact ⟨rfl, rfl⟩
      · rw [zb_f hf]
        refine zi_if_eq O 22 d_Mov_twist_17 (by decide) (fun c17 => ?_) (fun c17 => ?_)
        · refine zi_iload_n O d_Mov_twist_22 rfl ?_
          refine zi_if_ne O 38 d_Mov_twist_23 (by decide) (fun c23 => ?_) (fun c23 => ?_)
          · refine zi_aload_n O d_Mov_twist_38 rfl ?_
            refine zi_get O f_Mov_12 d_Mov_twist_39 rfl rfl ?_
            refine zi_iload_n O d_Mov_twist_42 rfl ?_
            refine zi_iload_n O d_Mov_twist_43 rfl ?_
            refine zi_iload_n O d_Mov_twist_44 rfl ?_
            refine zi_blkP O 1 ([zo 0 [.ref 1, .ref 19]]) (diaH ci n L S (2 * n) PL LB FR TO AT (FF (nxD fr to_ at_) (4 * n) (4 * n)).2 OF RD ST (rc oc n) (FF (nxE to_ at_) (2 * n) (2 * n)).2 OC CE SL) ((diaH cj k L' T m' PL' LB' FR' TO' AT' F' OF' RD' ST' pc' co' OC' CE' SL').map (zc (fun q => q + 19))) rfl rfl c_Mov_114 k_Dia_twistEdge (m_Dia_twistEdge_no hPk x sg y (hx.elim (fun z => absurd hs z) (fun z => z.elim (fun z => absurd z hf) (fun z => z.elim (fun z => absurd z.1 c23) (fun z => z.2))))) d_Mov_twist_45 ⟨(Nat.le_of_ble_eq_true rfl), (Nat.le_of_ble_eq_true rfl)⟩ ⟨(Nat.le_of_ble_eq_true rfl), (Nat.le_of_ble_eq_true rfl)⟩ rfl rfl (Nat.le_of_ble_eq_true rfl) rfl rfl rfl (Nat.le_of_ble_eq_true rfl) rfl rfl rfl ?_
            refine zi_zret O d_Mov_twist_48 rfl (Nat.le_of_ble_eq_true rfl) (Nat.le_of_ble_eq_true rfl) (Nat.le_of_ble_eq_true rfl) ?_
            exact ⟨rfl, rfl⟩
          · refine zi_aload_n O d_Mov_twist_26 rfl ?_
            refine zi_get O f_Mov_12 d_Mov_twist_27 rfl rfl ?_
            refine zi_iload_n O d_Mov_twist_30 rfl ?_
            refine zi_iload_n O d_Mov_twist_31 rfl ?_
            refine zi_blkP O 1 ([zo 0 [.ref 1, .ref 19]]) (diaH ci n L S (2 * n) PL LB FR TO AT (FF (nxD fr to_ at_) (4 * n) (4 * n)).2 OF RD ST (rc oc n) (FF (nxE to_ at_) (2 * n) (2 * n)).2 OC CE SL) ((diaH cj k L' T m' PL' LB' FR' TO' AT' F' OF' RD' ST' pc' co' OC' CE' SL').map (zc (fun q => q + 19))) rfl rfl c_Mov_110 k_Dia_twistCircle (m_Dia_twistCircle_no (dia_dr hPk) sg y (hx.elim (fun z => absurd hs z) (fun z => z.elim (fun z => absurd z hf) (fun z => z.elim (fun z => z.2) (fun z => absurd c23 z.1))))) d_Mov_twist_32 ⟨(Nat.le_of_ble_eq_true rfl), (Nat.le_of_ble_eq_true rfl)⟩ ⟨(Nat.le_of_ble_eq_true rfl), (Nat.le_of_ble_eq_true rfl)⟩ rfl rfl (Nat.le_of_ble_eq_true rfl) rfl rfl rfl (Nat.le_of_ble_eq_true rfl) rfl rfl rfl ?_
            refine zi_goto O 48 d_Mov_twist_35 (by decide) ?_
            refine zi_zret O d_Mov_twist_48 rfl (Nat.le_of_ble_eq_true rfl) (Nat.le_of_ble_eq_true rfl) (Nat.le_of_ble_eq_true rfl) ?_
            exact ⟨rfl, rfl⟩
        · exact absurd rfl c17
  · rw [zb_f hs]
    refine zi_if_eq O 20 d_Mov_twist_4 (by decide) (fun c4 => ?_) (fun c4 => ?_)
    · refine zi_iconstN O 0 d_Mov_twist_20 (by decide) ?_
      refine zi_zret O d_Mov_twist_21 rfl (Nat.le_of_ble_eq_true rfl) (Nat.le_of_ble_eq_true rfl) (Nat.le_of_ble_eq_true rfl) ?_
      exact ⟨rfl, rfl⟩
    · exact absurd rfl c4
set_option maxHeartbeats 1000000 in
theorem m_Mov_twist_c_1 {hA hB : List zE} (hP0 : Dia n lab S ci el fr to_ at_ oc hA) (hR0 : Dr k plab T cj hB) (ab : Bool) (sg : Int32) (hs : sg = nI 1 ∨ sg = -1) (hn20 : n < 20) (hc : 0 < ci) : zMet y_Mov_twist b_Mov_twist 4 (some .boolean) ⟨7, 1, 3, 200⟩ [.ref 0, .int 0, .int sg, .int (bI ab)] (movH 1 19 hA hB) (fun r h' => r = some (.int (nI 1)) ∧ Mv (ChQ (n + 1) (cr lab n sg ab (!ab) (fN el (fN el 0 (2 * n)) (2 * n)) (fN el 0 (2 * n)) (fN el (fN el 0 (2 * n)) (2 * n)) (fN el (fN el 0 (2 * n)) (2 * n)) (fN el 0 (2 * n)) (fN el (fN el 0 (2 * n)) (2 * n))) (upd S n sg) (ci - nI 1)) (Dr k plab T cj) h') := by
  have hPk := hP0
  have hRk := hR0
  obtain ⟨L, PL, LB, FR, TO, AT, OF, RD, ST, OC, CE, SL, rfl, hR, hG, hz, hE, hA, hRd, hO, hP, hOF⟩ := hP0
  have hn := hR.1
  have hFF := ff_le (by omega) (perm_D hE) (Nat.le_refl (4 * n))
  obtain ⟨L', m', PL', LB', FR', TO', AT', F', OF', RD', ST', pc', co', OC', CE', SL', rfl, hR', hG', hz'⟩ := hR0
  refine zMet_of (plainFor_of_name (by decide +kernel)) rfl (Nat.le_of_ble_eq_true rfl) (fun z1 z2 z3 z4 z5 z6 z7 z8 z9 z10 z11 z12 z13 z14 O hin => ?_)
  refine zi_ls (ls' := [some (.ref 0), some (.int 0), some (.int sg), some (.int (bI ab))]) rfl ?_
  refine zi_iload_n O d_Mov_twist_0 rfl ?_
  refine zi_pureS O [] c_Mov_23 k_Mov_isSign (m_Mov_isSign sg) d_Mov_twist_1 ⟨(Nat.le_of_ble_eq_true rfl), (Nat.le_of_ble_eq_true rfl)⟩ ⟨(Nat.le_of_ble_eq_true rfl), (Nat.le_of_ble_eq_true rfl)⟩ rfl (Nat.le_of_ble_eq_true rfl) rfl rfl rfl rfl rfl (Nat.le_of_ble_eq_true rfl) rfl ?_
  rw [zb_t hs]
  refine zi_if_eq O 20 d_Mov_twist_4 (by decide) (fun c4 => ?_) (fun c4 => ?_)
  · exact absurd c4 (by decide)
  · refine zi_aload_n O d_Mov_twist_7 rfl ?_
    refine zi_get O f_Mov_12 d_Mov_twist_8 rfl rfl ?_
    refine zi_get O f_Mov_26 d_Mov_twist_11 rfl rfl ?_
    refine zi_pureV O [2, 3, 4] c_Mov_30 k_Row_isFull (m_Row_isFull n L S hn) d_Mov_twist_14 ⟨(Nat.le_of_ble_eq_true rfl), (Nat.le_of_ble_eq_true rfl)⟩ ⟨(Nat.le_of_ble_eq_true rfl), (Nat.le_of_ble_eq_true rfl)⟩ rfl rfl (Nat.le_of_ble_eq_true rfl) rfl rfl rfl rfl rfl (Nat.le_of_ble_eq_true rfl) rfl ?_
    rw [zb_f (by omega)]
    refine zi_if_eq O 22 d_Mov_twist_17 (by decide) (fun c17 => ?_) (fun c17 => ?_)
    · refine zi_iload_n O d_Mov_twist_22 rfl ?_
      refine zi_if_ne O 38 d_Mov_twist_23 (by decide) (fun c23 => ?_) (fun c23 => ?_)
      · exact absurd rfl c23
      · refine zi_aload_n O d_Mov_twist_26 rfl ?_
        refine zi_get O f_Mov_12 d_Mov_twist_27 rfl rfl ?_
        refine zi_iload_n O d_Mov_twist_30 rfl ?_
        refine zi_iload_n O d_Mov_twist_31 rfl ?_
        refine zi_blkV O 1 ([zo 0 [.ref 1, .ref 19]]) (diaH ci n L S (2 * n) PL LB FR TO AT (FF (nxD fr to_ at_) (4 * n) (4 * n)).2 OF RD ST (rc oc n) (FF (nxE to_ at_) (2 * n) (2 * n)).2 OC CE SL) ((diaH cj k L' T m' PL' LB' FR' TO' AT' F' OF' RD' ST' pc' co' OC' CE' SL').map (zc (fun q => q + 19))) rfl rfl c_Mov_110 k_Dia_twistCircle (m_Dia_twistCircle hPk ab sg hs hn20 hc) d_Mov_twist_32 ⟨(Nat.le_of_ble_eq_true rfl), (Nat.le_of_ble_eq_true rfl)⟩ ⟨(Nat.le_of_ble_eq_true rfl), (Nat.le_of_ble_eq_true rfl)⟩ rfl rfl (Nat.le_of_ble_eq_true rfl) rfl rfl rfl (Nat.le_of_ble_eq_true rfl) rfl rfl (fun r h' hq => ?_) rfl (fun r h' hq => ?_)
        · exact chq_blk hq.2 rfl
        · obtain ⟨rfl, hC⟩ := hq
          have hC1 := hC
          obtain ⟨X1, x2, X3, X4, X5, X6, X7, x8, X9, X10, X11, x12, x13, X14, X15, X16, rfl⟩ := dr_form (chq_dr hC1)
          refine zi_st (st' := [.int (nI 1)]) rfl (zi_h (h' := movH 1 19 (diaH (ci - nI 1) (n + 1) X1 (upd S n sg) x2 X3 X4 X5 X6 X7 x8 X9 X10 X11 x12 x13 X14 X15 X16) (diaH cj k L' T m' PL' LB' FR' TO' AT' F' OF' RD' ST' pc' co' OC' CE' SL')) rfl ?_)
          refine zi_goto O 48 d_Mov_twist_35 (by decide) ?_
          refine zi_zret O d_Mov_twist_48 rfl (Nat.le_of_ble_eq_true rfl) (Nat.le_of_ble_eq_true rfl) (Nat.le_of_ble_eq_true rfl) ?_
          exact ⟨rfl, Or.inl ⟨_, _, hC, hRk, rfl⟩⟩
    · exact absurd rfl c17
set_option maxHeartbeats 1000000 in
theorem m_Mov_twist_e_1 {hA hB : List zE} (hP0 : Dia n lab S ci el fr to_ at_ oc hA) (hR0 : Dr k plab T cj hB) (ab : Bool) (sg : Int32) (hs : sg = nI 1 ∨ sg = -1) (hn20 : n < 20) (e : Nat) (he : e < 2 * n) : zMet y_Mov_twist b_Mov_twist 4 (some .boolean) ⟨7, 1, 3, 200⟩ [.ref 0, .int (nI (el e)), .int sg, .int (bI ab)] (movH 1 19 hA hB) (fun r h' => r = some (.int (nI 1)) ∧ Mv (ChQ (n + 1) (cr (va_up lab (to_ e) (fN el (fN el 0 (2 * n)) (2 * n))) n sg ab (!ab) (el e) (fN el 0 (2 * n)) (fN el (fN el 0 (2 * n)) (2 * n)) (el e) (fN el 0 (2 * n)) (fN el (fN el 0 (2 * n)) (2 * n))) (upd S n sg) ci) (Dr k plab T cj) h') := by
  have hPk := hP0
  have hRk := hR0
  obtain ⟨L, PL, LB, FR, TO, AT, OF, RD, ST, OC, CE, SL, rfl, hR, hG, hz, hE, hA, hRd, hO, hP, hOF⟩ := hP0
  have hn := hR.1
  have hFF := ff_le (by omega) (perm_D hE) (Nat.le_refl (4 * n))
  obtain ⟨L', m', PL', LB', FR', TO', AT', F', OF', RD', ST', pc', co', OC', CE', SL', rfl, hR', hG', hz'⟩ := hR0
  refine zMet_of (plainFor_of_name (by decide +kernel)) rfl (Nat.le_of_ble_eq_true rfl) (fun z1 z2 z3 z4 z5 z6 z7 z8 z9 z10 z11 z12 z13 z14 O hin => ?_)
  refine zi_ls (ls' := [some (.ref 0), some (.int (nI (el e))), some (.int sg), some (.int (bI ab))]) rfl ?_
  refine zi_iload_n O d_Mov_twist_0 rfl ?_
  refine zi_pureS O [] c_Mov_23 k_Mov_isSign (m_Mov_isSign sg) d_Mov_twist_1 ⟨(Nat.le_of_ble_eq_true rfl), (Nat.le_of_ble_eq_true rfl)⟩ ⟨(Nat.le_of_ble_eq_true rfl), (Nat.le_of_ble_eq_true rfl)⟩ rfl (Nat.le_of_ble_eq_true rfl) rfl rfl rfl rfl rfl (Nat.le_of_ble_eq_true rfl) rfl ?_
  rw [zb_t hs]
  refine zi_if_eq O 20 d_Mov_twist_4 (by decide) (fun c4 => ?_) (fun c4 => ?_)
  · exact absurd c4 (by decide)
  · refine zi_aload_n O d_Mov_twist_7 rfl ?_
    refine zi_get O f_Mov_12 d_Mov_twist_8 rfl rfl ?_
    refine zi_get O f_Mov_26 d_Mov_twist_11 rfl rfl ?_
    refine zi_pureV O [2, 3, 4] c_Mov_30 k_Row_isFull (m_Row_isFull n L S hn) d_Mov_twist_14 ⟨(Nat.le_of_ble_eq_true rfl), (Nat.le_of_ble_eq_true rfl)⟩ ⟨(Nat.le_of_ble_eq_true rfl), (Nat.le_of_ble_eq_true rfl)⟩ rfl rfl (Nat.le_of_ble_eq_true rfl) rfl rfl rfl rfl rfl (Nat.le_of_ble_eq_true rfl) rfl ?_
    rw [zb_f (by omega)]
    refine zi_if_eq O 22 d_Mov_twist_17 (by decide) (fun c17 => ?_) (fun c17 => ?_)
    · refine zi_iload_n O d_Mov_twist_22 rfl ?_
      refine zi_if_ne O 38 d_Mov_twist_23 (by decide) (fun c23 => ?_) (fun c23 => ?_)
      · refine zi_aload_n O d_Mov_twist_38 rfl ?_
        refine zi_get O f_Mov_12 d_Mov_twist_39 rfl rfl ?_
        refine zi_iload_n O d_Mov_twist_42 rfl ?_
        refine zi_iload_n O d_Mov_twist_43 rfl ?_
        refine zi_iload_n O d_Mov_twist_44 rfl ?_
        refine zi_blkV O 1 ([zo 0 [.ref 1, .ref 19]]) (diaH ci n L S (2 * n) PL LB FR TO AT (FF (nxD fr to_ at_) (4 * n) (4 * n)).2 OF RD ST (rc oc n) (FF (nxE to_ at_) (2 * n) (2 * n)).2 OC CE SL) ((diaH cj k L' T m' PL' LB' FR' TO' AT' F' OF' RD' ST' pc' co' OC' CE' SL').map (zc (fun q => q + 19))) rfl rfl c_Mov_114 k_Dia_twistEdge (m_Dia_twistEdge hPk ab sg hs hn20 e he) d_Mov_twist_45 ⟨(Nat.le_of_ble_eq_true rfl), (Nat.le_of_ble_eq_true rfl)⟩ ⟨(Nat.le_of_ble_eq_true rfl), (Nat.le_of_ble_eq_true rfl)⟩ rfl rfl (Nat.le_of_ble_eq_true rfl) rfl rfl rfl (Nat.le_of_ble_eq_true rfl) rfl rfl (fun r h' hq => ?_) rfl (fun r h' hq => ?_)
        · exact chq_blk hq.2 rfl
        · obtain ⟨rfl, hC⟩ := hq
          have hC1 := hC
          obtain ⟨X1, x2, X3, X4, X5, X6, X7, x8, X9, X10, X11, x12, x13, X14, X15, X16, rfl⟩ := dr_form (chq_dr hC1)
          refine zi_st (st' := [.int (nI 1)]) rfl (zi_h (h' := movH 1 19 (diaH ci (n + 1) X1 (upd S n sg) x2 X3 X4 X5 X6 X7 x8 X9 X10 X11 x12 x13 X14 X15 X16) (diaH cj k L' T m' PL' LB' FR' TO' AT' F' OF' RD' ST' pc' co' OC' CE' SL')) rfl ?_)
          refine zi_zret O d_Mov_twist_48 rfl (Nat.le_of_ble_eq_true rfl) (Nat.le_of_ble_eq_true rfl) (Nat.le_of_ble_eq_true rfl) ?_
          exact ⟨rfl, Or.inl ⟨_, _, hC, hRk, rfl⟩⟩
      · exact absurd c23 (nI_ne0 (by have := el_ok hR hE he; omega) (by have := el_ok hR hE he; omega))
    · exact absurd rfl c17
theorem m_Mov_undo_no_2 {hA hB : List zE} (hP0 : Dia n lab S ci el fr to_ at_ oc hA) (hR0 : Dr k plab T cj hB) (x : Int32) (hx : ¬ (0 ≤ x ∧ x < nI (FF (nxD fr to_ at_) (4 * n) (4 * n)).2)) : zPu y_Mov_undo b_Mov_undo 2 (some .int) ⟨6, 0, 0, 170⟩ [.ref 0, .int x] (movH 19 1 hB hA) (.int (nI 0)) := by
  have hPk := hP0
  have hRk := hR0
  obtain ⟨L, PL, LB, FR, TO, AT, OF, RD, ST, OC, CE, SL, rfl, hR, hG, hz, hE, hA, hRd, hO, hP, hOF⟩ := hP0
  have hn := hR.1
  have hFF := ff_le (by omega) (perm_D hE) (Nat.le_refl (4 * n))
  obtain ⟨L', m', PL', LB', FR', TO', AT', F', OF', RD', ST', pc', co', OC', CE', SL', rfl, hR', hG', hz'⟩ := hR0
  refine zMet_of (plainFor_of_name (by decide +kernel)) rfl (Nat.le_of_ble_eq_true rfl) (fun z1 z2 z3 z4 z5 z6 z7 z8 z9 z10 z11 z12 z13 z14 O hin => ?_)
  refine zi_ls (ls' := [some (.ref 0), some (.int x)]) rfl ?_
  refine zi_aload_n O d_Mov_undo_0 rfl ?_
  refine zi_get O f_Mov_12 d_Mov_undo_1 rfl rfl ?_
  refine zi_get O f_Mov_54 d_Mov_undo_4 rfl rfl ?_
  refine zi_iload_n O d_Mov_undo_7 rfl ?_
  refine zi_pureV O [29, 30, 31, 32] c_Mov_88 k_Fac_has (m_Fac_has (FF (nxD fr to_ at_) (4 * n) (4 * n)).2 OF RD ST x) d_Mov_undo_8 ⟨(Nat.le_of_ble_eq_true rfl), (Nat.le_of_ble_eq_true rfl)⟩ ⟨(Nat.le_of_ble_eq_true rfl), (Nat.le_of_ble_eq_true rfl)⟩ rfl rfl (Nat.le_of_ble_eq_true rfl) rfl rfl rfl rfl rfl (Nat.le_of_ble_eq_true rfl) rfl ?_
  rw [zb_f hx]
  refine zi_if_eq O 25 d_Mov_undo_11 (by decide) (fun c11 => ?_) (fun c11 => ?_)
  · refine zi_iconstN O 0 d_Mov_undo_25 (by decide) ?_
    refine zi_iret O d_Mov_undo_26 (Nat.le_of_ble_eq_true rfl) (Nat.le_of_ble_eq_true rfl) (Nat.le_of_ble_eq_true rfl) ?_
    exact ⟨rfl, rfl⟩
  · exact absurd rfl c11
theorem m_Mov_undo_0_2 {hA hB : List zE} (hP0 : Dia n lab S ci el fr to_ at_ oc hA) (hR0 : Dr k plab T cj hB) (j l t : Nat) (hj : j < (FF (nxD fr to_ at_) (4 * n) (4 * n)).2) (hF : FaceK n (nxD fr to_ at_) j l t) (hp : ¬ (pat fr to_ (nxD fr to_ at_) l t = 1 ∨ pat fr to_ (nxD fr to_ at_) l t = 2)) : zPu y_Mov_undo b_Mov_undo 2 (some .int) ⟨6, 0, 0, 170⟩ [.ref 0, .int (nI j)] (movH 19 1 hB hA) (.int (nI 0)) := by
  have hPk := hP0
  have hRk := hR0
  obtain ⟨L, PL, LB, FR, TO, AT, OF, RD, ST, OC, CE, SL, rfl, hR, hG, hz, hE, hA, hRd, hO, hP, hOF⟩ := hP0
  have hn := hR.1
  have hFF := ff_le (by omega) (perm_D hE) (Nat.le_refl (4 * n))
  obtain ⟨L', m', PL', LB', FR', TO', AT', F', OF', RD', ST', pc', co', OC', CE', SL', rfl, hR', hG', hz'⟩ := hR0
  refine zMet_of (plainFor_of_name (by decide +kernel)) rfl (Nat.le_of_ble_eq_true rfl) (fun z1 z2 z3 z4 z5 z6 z7 z8 z9 z10 z11 z12 z13 z14 O hin => ?_)
  refine zi_ls (ls' := [some (.ref 0), some (.int (nI j))]) rfl ?_
  refine zi_aload_n O d_Mov_undo_0 rfl ?_
  refine zi_get O f_Mov_12 d_Mov_undo_1 rfl rfl ?_
  refine zi_get O f_Mov_54 d_Mov_undo_4 rfl rfl ?_
  refine zi_iload_n O d_Mov_undo_7 rfl ?_
  refine zi_pureV O [29, 30, 31, 32] c_Mov_88 k_Fac_has (m_Fac_has (FF (nxD fr to_ at_) (4 * n) (4 * n)).2 OF RD ST (nI j)) d_Mov_undo_8 ⟨(Nat.le_of_ble_eq_true rfl), (Nat.le_of_ble_eq_true rfl)⟩ ⟨(Nat.le_of_ble_eq_true rfl), (Nat.le_of_ble_eq_true rfl)⟩ rfl rfl (Nat.le_of_ble_eq_true rfl) rfl rfl rfl rfl rfl (Nat.le_of_ble_eq_true rfl) rfl ?_
  rw [zb_t ⟨nI_pos' (by omega), nI_lt hj (by omega)⟩]
  refine zi_if_eq O 25 d_Mov_undo_11 (by decide) (fun c11 => ?_) (fun c11 => ?_)
  · exact absurd c11 (by decide)
  · refine zi_aload_n O d_Mov_undo_14 rfl ?_
    refine zi_get O f_Mov_12 d_Mov_undo_15 rfl rfl ?_
    refine zi_iload_n O d_Mov_undo_18 rfl ?_
    refine zi_blkP O 19 (zo 0 [.ref 19, .ref 1] :: (diaH cj k L' T m' PL' LB' FR' TO' AT' F' OF' RD' ST' pc' co' OC' CE' SL').map (zc (fun q => q + 1))) (diaH ci n L S (2 * n) PL LB FR TO AT (FF (nxD fr to_ at_) (4 * n) (4 * n)).2 OF RD ST (rc oc n) (FF (nxE to_ at_) (2 * n) (2 * n)).2 OC CE SL) ([]) rfl rfl c_Mov_104 k_Dia_undoAt (m_Dia_undoAt_no hPk j l t hj hF hp) d_Mov_undo_19 ⟨(Nat.le_of_ble_eq_true rfl), (Nat.le_of_ble_eq_true rfl)⟩ ⟨(Nat.le_of_ble_eq_true rfl), (Nat.le_of_ble_eq_true rfl)⟩ rfl rfl (Nat.le_of_ble_eq_true rfl) rfl rfl rfl (Nat.le_of_ble_eq_true rfl) rfl rfl rfl ?_
    refine zi_goto O 26 d_Mov_undo_22 (by decide) ?_
    refine zi_iret O d_Mov_undo_26 (Nat.le_of_ble_eq_true rfl) (Nat.le_of_ble_eq_true rfl) (Nat.le_of_ble_eq_true rfl) ?_
    exact ⟨rfl, rfl⟩
set_option maxHeartbeats 1000000 in
theorem m_Mov_undo_1_2 {hA hB : List zE} (hP0 : Dia n lab S ci el fr to_ at_ oc hA) (hR0 : Dr k plab T cj hB) (j l t : Nat) (hj : j < (FF (nxD fr to_ at_) (4 * n) (4 * n)).2) (hF : FaceK n (nxD fr to_ at_) j l t) (hp : pat fr to_ (nxD fr to_ at_) l t = 1) : zMet y_Mov_undo b_Mov_undo 2 (some .int) ⟨6, 0, 0, 170⟩ [.ref 0, .int (nI j)] (movH 19 1 hB hA) (fun r h' => r = some (.int (nI 1)) ∧ Mv (ChQ (n - 1) (lfL lab S (ca fr to_ l)) (rmS S n (ca fr to_ l)) (lfC lab S (ca fr to_ l) ci)) (Dr k plab T cj) h') := by
  have hPk := hP0
  have hRk := hR0
  obtain ⟨L, PL, LB, FR, TO, AT, OF, RD, ST, OC, CE, SL, rfl, hR, hG, hz, hE, hA, hRd, hO, hP, hOF⟩ := hP0
  have hn := hR.1
  have hFF := ff_le (by omega) (perm_D hE) (Nat.le_refl (4 * n))
  obtain ⟨L', m', PL', LB', FR', TO', AT', F', OF', RD', ST', pc', co', OC', CE', SL', rfl, hR', hG', hz'⟩ := hR0
  refine zMet_of (plainFor_of_name (by decide +kernel)) rfl (Nat.le_of_ble_eq_true rfl) (fun z1 z2 z3 z4 z5 z6 z7 z8 z9 z10 z11 z12 z13 z14 O hin => ?_)
  refine zi_ls (ls' := [some (.ref 0), some (.int (nI j))]) rfl ?_
  refine zi_aload_n O d_Mov_undo_0 rfl ?_
  refine zi_get O f_Mov_12 d_Mov_undo_1 rfl rfl ?_
  refine zi_get O f_Mov_54 d_Mov_undo_4 rfl rfl ?_
  refine zi_iload_n O d_Mov_undo_7 rfl ?_
  refine zi_pureV O [29, 30, 31, 32] c_Mov_88 k_Fac_has (m_Fac_has (FF (nxD fr to_ at_) (4 * n) (4 * n)).2 OF RD ST (nI j)) d_Mov_undo_8 ⟨(Nat.le_of_ble_eq_true rfl), (Nat.le_of_ble_eq_true rfl)⟩ ⟨(Nat.le_of_ble_eq_true rfl), (Nat.le_of_ble_eq_true rfl)⟩ rfl rfl (Nat.le_of_ble_eq_true rfl) rfl rfl rfl rfl rfl (Nat.le_of_ble_eq_true rfl) rfl ?_
  rw [zb_t ⟨nI_pos' (by omega), nI_lt hj (by omega)⟩]
  refine zi_if_eq O 25 d_Mov_undo_11 (by decide) (fun c11 => ?_) (fun c11 => ?_)
  · exact absurd c11 (by decide)
  · refine zi_aload_n O d_Mov_undo_14 rfl ?_
    refine zi_get O f_Mov_12 d_Mov_undo_15 rfl rfl ?_
    refine zi_iload_n O d_Mov_undo_18 rfl ?_
    refine zi_blkV O 19 (zo 0 [.ref 19, .ref 1] :: (diaH cj k L' T m' PL' LB' FR' TO' AT' F' OF' RD' ST' pc' co' OC' CE' SL').map (zc (fun q => q + 1))) (diaH ci n L S (2 * n) PL LB FR TO AT (FF (nxD fr to_ at_) (4 * n) (4 * n)).2 OF RD ST (rc oc n) (FF (nxE to_ at_) (2 * n) (2 * n)).2 OC CE SL) ([]) rfl rfl c_Mov_104 k_Dia_undoAt (m_Dia_undoAt_1 hPk j l t hj hF hp) d_Mov_undo_19 ⟨(Nat.le_of_ble_eq_true rfl), (Nat.le_of_ble_eq_true rfl)⟩ ⟨(Nat.le_of_ble_eq_true rfl), (Nat.le_of_ble_eq_true rfl)⟩ rfl rfl (Nat.le_of_ble_eq_true rfl) rfl rfl rfl (Nat.le_of_ble_eq_true rfl) rfl rfl (fun r h' hq => ?_) rfl (fun r h' hq => ?_)
    · exact chq_blk hq.2 rfl
    · obtain ⟨rfl, hC⟩ := hq
      have hC1 := hC
      obtain ⟨X1, x2, X3, X4, X5, X6, X7, x8, X9, X10, X11, x12, x13, X14, X15, X16, rfl⟩ := dr_form (chq_dr hC1)
      refine zi_st (st' := [.int (nI 1)]) rfl (zi_h (h' := movH 19 1 (diaH cj k L' T m' PL' LB' FR' TO' AT' F' OF' RD' ST' pc' co' OC' CE' SL') (diaH (lfC lab S (ca fr to_ l) ci) (n - 1) X1 (rmS S n (ca fr to_ l)) x2 X3 X4 X5 X6 X7 x8 X9 X10 X11 x12 x13 X14 X15 X16)) rfl ?_)
      refine zi_goto O 26 d_Mov_undo_22 (by decide) ?_
      refine zi_iret O d_Mov_undo_26 (Nat.le_of_ble_eq_true rfl) (Nat.le_of_ble_eq_true rfl) (Nat.le_of_ble_eq_true rfl) ?_
      exact ⟨rfl, Or.inr ⟨_, _, hRk, hC, rfl⟩⟩
set_option maxHeartbeats 1000000 in
theorem m_Mov_undo_2_2 {hA hB : List zE} (hP0 : Dia n lab S ci el fr to_ at_ oc hA) (hR0 : Dr k plab T cj hB) (j l t : Nat) (hj : j < (FF (nxD fr to_ at_) (4 * n) (4 * n)).2) (hF : FaceK n (nxD fr to_ at_) j l t) (a b : Nat) (hp : pat fr to_ (nxD fr to_ at_) l t = 2) (ha : a = mn (ca fr to_ l) (ca fr to_ (nxD fr to_ at_ l))) (hb : b = mx (ca fr to_ l) (ca fr to_ (nxD fr to_ at_ l)) - 1) : zMet y_Mov_undo b_Mov_undo 2 (some .int) ⟨6, 0, 0, 170⟩ [.ref 0, .int (nI j)] (movH 19 1 hB hA) (fun r h' => r = some (.int (nI 2)) ∧ a < n ∧ b < n - 1 ∧ Mv (ChQ (n - 1 - 1) (lfL (lfL lab S a) (rmS S n a) b) (rmS (rmS S n a) (n - 1) b) (lfC (lfL lab S a) (rmS S n a) b (lfC lab S a ci))) (Dr k plab T cj) h') := by
  have hPk := hP0
  have hRk := hR0
  obtain ⟨L, PL, LB, FR, TO, AT, OF, RD, ST, OC, CE, SL, rfl, hR, hG, hz, hE, hA, hRd, hO, hP, hOF⟩ := hP0
  have hn := hR.1
  have hFF := ff_le (by omega) (perm_D hE) (Nat.le_refl (4 * n))
  obtain ⟨L', m', PL', LB', FR', TO', AT', F', OF', RD', ST', pc', co', OC', CE', SL', rfl, hR', hG', hz'⟩ := hR0
  refine zMet_of (plainFor_of_name (by decide +kernel)) rfl (Nat.le_of_ble_eq_true rfl) (fun z1 z2 z3 z4 z5 z6 z7 z8 z9 z10 z11 z12 z13 z14 O hin => ?_)
  refine zi_ls (ls' := [some (.ref 0), some (.int (nI j))]) rfl ?_
  refine zi_aload_n O d_Mov_undo_0 rfl ?_
  refine zi_get O f_Mov_12 d_Mov_undo_1 rfl rfl ?_
  refine zi_get O f_Mov_54 d_Mov_undo_4 rfl rfl ?_
  refine zi_iload_n O d_Mov_undo_7 rfl ?_
  refine zi_pureV O [29, 30, 31, 32] c_Mov_88 k_Fac_has (m_Fac_has (FF (nxD fr to_ at_) (4 * n) (4 * n)).2 OF RD ST (nI j)) d_Mov_undo_8 ⟨(Nat.le_of_ble_eq_true rfl), (Nat.le_of_ble_eq_true rfl)⟩ ⟨(Nat.le_of_ble_eq_true rfl), (Nat.le_of_ble_eq_true rfl)⟩ rfl rfl (Nat.le_of_ble_eq_true rfl) rfl rfl rfl rfl rfl (Nat.le_of_ble_eq_true rfl) rfl ?_
  rw [zb_t ⟨nI_pos' (by omega), nI_lt hj (by omega)⟩]
  refine zi_if_eq O 25 d_Mov_undo_11 (by decide) (fun c11 => ?_) (fun c11 => ?_)
  · exact absurd c11 (by decide)
  · refine zi_aload_n O d_Mov_undo_14 rfl ?_
    refine zi_get O f_Mov_12 d_Mov_undo_15 rfl rfl ?_
    refine zi_iload_n O d_Mov_undo_18 rfl ?_
    refine zi_blkV O 19 (zo 0 [.ref 19, .ref 1] :: (diaH cj k L' T m' PL' LB' FR' TO' AT' F' OF' RD' ST' pc' co' OC' CE' SL').map (zc (fun q => q + 1))) (diaH ci n L S (2 * n) PL LB FR TO AT (FF (nxD fr to_ at_) (4 * n) (4 * n)).2 OF RD ST (rc oc n) (FF (nxE to_ at_) (2 * n) (2 * n)).2 OC CE SL) ([]) rfl rfl c_Mov_104 k_Dia_undoAt (m_Dia_undoAt_2 hPk j l t a b hj hF hp ha hb) d_Mov_undo_19 ⟨(Nat.le_of_ble_eq_true rfl), (Nat.le_of_ble_eq_true rfl)⟩ ⟨(Nat.le_of_ble_eq_true rfl), (Nat.le_of_ble_eq_true rfl)⟩ rfl rfl (Nat.le_of_ble_eq_true rfl) rfl rfl rfl (Nat.le_of_ble_eq_true rfl) rfl rfl (fun r h' hq => ?_) rfl (fun r h' hq => ?_)
    · exact chq_blk hq.2.2.2 rfl
    · obtain ⟨rfl, han, hbn, hC⟩ := hq
      have hC1 := hC
      obtain ⟨X1, x2, X3, X4, X5, X6, X7, x8, X9, X10, X11, x12, x13, X14, X15, X16, rfl⟩ := dr_form (chq_dr hC1)
      refine zi_st (st' := [.int (nI 2)]) rfl (zi_h (h' := movH 19 1 (diaH cj k L' T m' PL' LB' FR' TO' AT' F' OF' RD' ST' pc' co' OC' CE' SL') (diaH (lfC (lfL lab S a) (rmS S n a) b (lfC lab S a ci)) (n - 1 - 1) X1 (rmS (rmS S n a) (n - 1) b) x2 X3 X4 X5 X6 X7 x8 X9 X10 X11 x12 x13 X14 X15 X16)) rfl ?_)
      refine zi_goto O 26 d_Mov_undo_22 (by decide) ?_
      refine zi_iret O d_Mov_undo_26 (Nat.le_of_ble_eq_true rfl) (Nat.le_of_ble_eq_true rfl) (Nat.le_of_ble_eq_true rfl) ?_
      exact ⟨rfl, han, hbn, Or.inr ⟨_, _, hRk, hC, rfl⟩⟩
theorem m_Mov_slide_no_2 {hA hB : List zE} (hP0 : Dia n lab S ci el fr to_ at_ oc hA) (hR0 : Dr k plab T cj hB) (x : Int32) (hx : ¬ (0 ≤ x ∧ x < nI (FF (nxD fr to_ at_) (4 * n) (4 * n)).2)) : zPu y_Mov_slide b_Mov_slide 2 (some .boolean) ⟨6, 0, 0, 170⟩ [.ref 0, .int x] (movH 19 1 hB hA) (.int (nI 0)) := by
  have hPk := hP0
  have hRk := hR0
  obtain ⟨L, PL, LB, FR, TO, AT, OF, RD, ST, OC, CE, SL, rfl, hR, hG, hz, hE, hA, hRd, hO, hP, hOF⟩ := hP0
  have hn := hR.1
  have hFF := ff_le (by omega) (perm_D hE) (Nat.le_refl (4 * n))
  obtain ⟨L', m', PL', LB', FR', TO', AT', F', OF', RD', ST', pc', co', OC', CE', SL', rfl, hR', hG', hz'⟩ := hR0
  refine zMet_of (plainFor_of_name (by decide +kernel)) rfl (Nat.le_of_ble_eq_true rfl) (fun z1 z2 z3 z4 z5 z6 z7 z8 z9 z10 z11 z12 z13 z14 O hin => ?_)
  refine zi_ls (ls' := [some (.ref 0), some (.int x)]) rfl ?_
  refine zi_aload_n O d_Mov_slide_0 rfl ?_
  refine zi_get O f_Mov_12 d_Mov_slide_1 rfl rfl ?_
  refine zi_get O f_Mov_54 d_Mov_slide_4 rfl rfl ?_
  refine zi_iload_n O d_Mov_slide_7 rfl ?_
  refine zi_pureV O [29, 30, 31, 32] c_Mov_88 k_Fac_has (m_Fac_has (FF (nxD fr to_ at_) (4 * n) (4 * n)).2 OF RD ST x) d_Mov_slide_8 ⟨(Nat.le_of_ble_eq_true rfl), (Nat.le_of_ble_eq_true rfl)⟩ ⟨(Nat.le_of_ble_eq_true rfl), (Nat.le_of_ble_eq_true rfl)⟩ rfl rfl (Nat.le_of_ble_eq_true rfl) rfl rfl rfl rfl rfl (Nat.le_of_ble_eq_true rfl) rfl ?_
  rw [zb_f hx]
  refine zi_if_eq O 29 d_Mov_slide_11 (by decide) (fun c11 => ?_) (fun c11 => ?_)
  · refine zi_iconstN O 0 d_Mov_slide_29 (by decide) ?_
    refine zi_zret O d_Mov_slide_30 rfl (Nat.le_of_ble_eq_true rfl) (Nat.le_of_ble_eq_true rfl) (Nat.le_of_ble_eq_true rfl) ?_
    exact ⟨rfl, rfl⟩
  · exact absurd rfl c11
theorem m_Mov_slide_0_2 {hA hB : List zE} (hP0 : Dia n lab S ci el fr to_ at_ oc hA) (hR0 : Dr k plab T cj hB) (j l t : Nat) (hj : j < (FF (nxD fr to_ at_) (4 * n) (4 * n)).2) (hF : FaceK n (nxD fr to_ at_) j l t) (hp : pat fr to_ (nxD fr to_ at_) l t ≠ 3) : zPu y_Mov_slide b_Mov_slide 2 (some .boolean) ⟨6, 0, 0, 170⟩ [.ref 0, .int (nI j)] (movH 19 1 hB hA) (.int (nI 0)) := by
  have hPk := hP0
  have hRk := hR0
  obtain ⟨L, PL, LB, FR, TO, AT, OF, RD, ST, OC, CE, SL, rfl, hR, hG, hz, hE, hA, hRd, hO, hP, hOF⟩ := hP0
  have hn := hR.1
  have hFF := ff_le (by omega) (perm_D hE) (Nat.le_refl (4 * n))
  obtain ⟨L', m', PL', LB', FR', TO', AT', F', OF', RD', ST', pc', co', OC', CE', SL', rfl, hR', hG', hz'⟩ := hR0
  refine zMet_of (plainFor_of_name (by decide +kernel)) rfl (Nat.le_of_ble_eq_true rfl) (fun z1 z2 z3 z4 z5 z6 z7 z8 z9 z10 z11 z12 z13 z14 O hin => ?_)
  refine zi_ls (ls' := [some (.ref 0), some (.int (nI j))]) rfl ?_
  refine zi_aload_n O d_Mov_slide_0 rfl ?_
  refine zi_get O f_Mov_12 d_Mov_slide_1 rfl rfl ?_
  refine zi_get O f_Mov_54 d_Mov_slide_4 rfl rfl ?_
  refine zi_iload_n O d_Mov_slide_7 rfl ?_
  refine zi_pureV O [29, 30, 31, 32] c_Mov_88 k_Fac_has (m_Fac_has (FF (nxD fr to_ at_) (4 * n) (4 * n)).2 OF RD ST (nI j)) d_Mov_slide_8 ⟨(Nat.le_of_ble_eq_true rfl), (Nat.le_of_ble_eq_true rfl)⟩ ⟨(Nat.le_of_ble_eq_true rfl), (Nat.le_of_ble_eq_true rfl)⟩ rfl rfl (Nat.le_of_ble_eq_true rfl) rfl rfl rfl rfl rfl (Nat.le_of_ble_eq_true rfl) rfl ?_
  rw [zb_t ⟨nI_pos' (by omega), nI_lt hj (by omega)⟩]
  refine zi_if_eq O 29 d_Mov_slide_11 (by decide) (fun c11 => ?_) (fun c11 => ?_)
  · exact absurd c11 (by decide)
  · refine zi_aload_n O d_Mov_slide_14 rfl ?_
    refine zi_get O f_Mov_12 d_Mov_slide_15 rfl rfl ?_
    refine zi_iload_n O d_Mov_slide_18 rfl ?_
    refine zi_blkP O 19 (zo 0 [.ref 19, .ref 1] :: (diaH cj k L' T m' PL' LB' FR' TO' AT' F' OF' RD' ST' pc' co' OC' CE' SL').map (zc (fun q => q + 1))) (diaH ci n L S (2 * n) PL LB FR TO AT (FF (nxD fr to_ at_) (4 * n) (4 * n)).2 OF RD ST (rc oc n) (FF (nxE to_ at_) (2 * n) (2 * n)).2 OC CE SL) ([]) rfl rfl c_Mov_107 k_Dia_slideAt (m_Dia_slideAt_no hPk j l t hj hF hp) d_Mov_slide_19 ⟨(Nat.le_of_ble_eq_true rfl), (Nat.le_of_ble_eq_true rfl)⟩ ⟨(Nat.le_of_ble_eq_true rfl), (Nat.le_of_ble_eq_true rfl)⟩ rfl rfl (Nat.le_of_ble_eq_true rfl) rfl rfl rfl (Nat.le_of_ble_eq_true rfl) rfl rfl rfl ?_
    refine zi_if_eq O 29 d_Mov_slide_22 (by decide) (fun c22 => ?_) (fun c22 => ?_)
    · refine zi_iconstN O 0 d_Mov_slide_29 (by decide) ?_
      refine zi_zret O d_Mov_slide_30 rfl (Nat.le_of_ble_eq_true rfl) (Nat.le_of_ble_eq_true rfl) (Nat.le_of_ble_eq_true rfl) ?_
      exact ⟨rfl, rfl⟩
    · exact absurd rfl c22
set_option maxHeartbeats 1000000 in
theorem m_Mov_slide_3_2 {hA hB : List zE} (hP0 : Dia n lab S ci el fr to_ at_ oc hA) (hR0 : Dr k plab T cj hB) (j l t : Nat) (hj : j < (FF (nxD fr to_ at_) (4 * n) (4 * n)).2) (hF : FaceK n (nxD fr to_ at_) j l t) (hp : pat fr to_ (nxD fr to_ at_) l t = 3) : zMet y_Mov_slide b_Mov_slide 2 (some .boolean) ⟨6, 0, 0, 170⟩ [.ref 0, .int (nI j)] (movH 19 1 hB hA) (fun r h' => r = some (.int (nI 1)) ∧ t = 3 ∧ Mv (ChQ n (sl3 el fr to_ lab (l / 2) (nxD fr to_ at_ l / 2) (nxD fr to_ at_ (nxD fr to_ at_ l) / 2)) S ci) (Dr k plab T cj) h') := by
  have hPk := hP0
  have hRk := hR0
  obtain ⟨L, PL, LB, FR, TO, AT, OF, RD, ST, OC, CE, SL, rfl, hR, hG, hz, hE, hA, hRd, hO, hP, hOF⟩ := hP0
  have hn := hR.1
  have hFF := ff_le (by omega) (perm_D hE) (Nat.le_refl (4 * n))
  obtain ⟨L', m', PL', LB', FR', TO', AT', F', OF', RD', ST', pc', co', OC', CE', SL', rfl, hR', hG', hz'⟩ := hR0
  refine zMet_of (plainFor_of_name (by decide +kernel)) rfl (Nat.le_of_ble_eq_true rfl) (fun z1 z2 z3 z4 z5 z6 z7 z8 z9 z10 z11 z12 z13 z14 O hin => ?_)
  refine zi_ls (ls' := [some (.ref 0), some (.int (nI j))]) rfl ?_
  refine zi_aload_n O d_Mov_slide_0 rfl ?_
  refine zi_get O f_Mov_12 d_Mov_slide_1 rfl rfl ?_
  refine zi_get O f_Mov_54 d_Mov_slide_4 rfl rfl ?_
  refine zi_iload_n O d_Mov_slide_7 rfl ?_
  refine zi_pureV O [29, 30, 31, 32] c_Mov_88 k_Fac_has (m_Fac_has (FF (nxD fr to_ at_) (4 * n) (4 * n)).2 OF RD ST (nI j)) d_Mov_slide_8 ⟨(Nat.le_of_ble_eq_true rfl), (Nat.le_of_ble_eq_true rfl)⟩ ⟨(Nat.le_of_ble_eq_true rfl), (Nat.le_of_ble_eq_true rfl)⟩ rfl rfl (Nat.le_of_ble_eq_true rfl) rfl rfl rfl rfl rfl (Nat.le_of_ble_eq_true rfl) rfl ?_
  rw [zb_t ⟨nI_pos' (by omega), nI_lt hj (by omega)⟩]
  refine zi_if_eq O 29 d_Mov_slide_11 (by decide) (fun c11 => ?_) (fun c11 => ?_)
  · exact absurd c11 (by decide)
  · refine zi_aload_n O d_Mov_slide_14 rfl ?_
    refine zi_get O f_Mov_12 d_Mov_slide_15 rfl rfl ?_
    refine zi_iload_n O d_Mov_slide_18 rfl ?_
    refine zi_blkV O 19 (zo 0 [.ref 19, .ref 1] :: (diaH cj k L' T m' PL' LB' FR' TO' AT' F' OF' RD' ST' pc' co' OC' CE' SL').map (zc (fun q => q + 1))) (diaH ci n L S (2 * n) PL LB FR TO AT (FF (nxD fr to_ at_) (4 * n) (4 * n)).2 OF RD ST (rc oc n) (FF (nxE to_ at_) (2 * n) (2 * n)).2 OC CE SL) ([]) rfl rfl c_Mov_107 k_Dia_slideAt (m_Dia_slideAt hPk j l t hj hF hp) d_Mov_slide_19 ⟨(Nat.le_of_ble_eq_true rfl), (Nat.le_of_ble_eq_true rfl)⟩ ⟨(Nat.le_of_ble_eq_true rfl), (Nat.le_of_ble_eq_true rfl)⟩ rfl rfl (Nat.le_of_ble_eq_true rfl) rfl rfl rfl (Nat.le_of_ble_eq_true rfl) rfl rfl (fun r h' hq => ?_) rfl (fun r h' hq => ?_)
    · exact chq_blk hq.2.2 rfl
    · obtain ⟨rfl, ht3, hC⟩ := hq
      have hC1 := hC
      obtain ⟨X1, x2, X3, X4, X5, X6, X7, x8, X9, X10, X11, x12, x13, X14, X15, X16, rfl⟩ := dr_form (chq_dr hC1)
      refine zi_st (st' := [.int (nI 1)]) rfl (zi_h (h' := movH 19 1 (diaH cj k L' T m' PL' LB' FR' TO' AT' F' OF' RD' ST' pc' co' OC' CE' SL') (diaH ci n X1 S x2 X3 X4 X5 X6 X7 x8 X9 X10 X11 x12 x13 X14 X15 X16)) rfl ?_)
      refine zi_if_eq O 29 d_Mov_slide_22 (by decide) (fun c22 => ?_) (fun c22 => ?_)
      · exact absurd c22 (by decide)
      · refine zi_iconstN O 1 d_Mov_slide_25 (by decide) ?_
        refine zi_goto O 30 d_Mov_slide_26 (by decide) ?_
        refine zi_zret O d_Mov_slide_30 rfl (Nat.le_of_ble_eq_true rfl) (Nat.le_of_ble_eq_true rfl) (Nat.le_of_ble_eq_true rfl) ?_
        exact ⟨rfl, ht3, Or.inr ⟨_, _, hRk, hC, rfl⟩⟩
theorem m_Mov_twist_no_2 {hA hB : List zE} (hP0 : Dia n lab S ci el fr to_ at_ oc hA) (hR0 : Dr k plab T cj hB) (x sg y : Int32) (hx : ¬ (sg = nI 1 ∨ sg = -1) ∨ 20 ≤ n ∨ (x = 0 ∧ ¬ 0 < ci) ∨ (¬ x = 0 ∧ ∀ e, e < 2 * n → ¬ nI (el e) = x)) : zPu y_Mov_twist b_Mov_twist 4 (some .boolean) ⟨7, 0, 0, 200⟩ [.ref 0, .int x, .int sg, .int y] (movH 19 1 hB hA) (.int (nI 0)) := by
  have hPk := hP0
  have hRk := hR0
  obtain ⟨L, PL, LB, FR, TO, AT, OF, RD, ST, OC, CE, SL, rfl, hR, hG, hz, hE, hA, hRd, hO, hP, hOF⟩ := hP0
  have hn := hR.1
  have hFF := ff_le (by omega) (perm_D hE) (Nat.le_refl (4 * n))
  obtain ⟨L', m', PL', LB', FR', TO', AT', F', OF', RD', ST', pc', co', OC', CE', SL', rfl, hR', hG', hz'⟩ := hR0
  refine zMet_of (plainFor_of_name (by decide +kernel)) rfl (Nat.le_of_ble_eq_true rfl) (fun z1 z2 z3 z4 z5 z6 z7 z8 z9 z10 z11 z12 z13 z14 O hin => ?_)
  refine zi_ls (ls' := [some (.ref 0), some (.int x), some (.int sg), some (.int y)]) rfl ?_
  refine zi_iload_n O d_Mov_twist_0 rfl ?_
  refine zi_pureS O [] c_Mov_23 k_Mov_isSign (m_Mov_isSign sg) d_Mov_twist_1 ⟨(Nat.le_of_ble_eq_true rfl), (Nat.le_of_ble_eq_true rfl)⟩ ⟨(Nat.le_of_ble_eq_true rfl), (Nat.le_of_ble_eq_true rfl)⟩ rfl (Nat.le_of_ble_eq_true rfl) rfl rfl rfl rfl rfl (Nat.le_of_ble_eq_true rfl) rfl ?_
  by_cases hs : sg = nI 1 ∨ sg = -1
  · rw [zb_t hs]
    refine zi_if_eq O 20 d_Mov_twist_4 (by decide) (fun c4 => ?_) (fun c4 => ?_)
    · exact absurd c4 (by decide)
    · refine zi_aload_n O d_Mov_twist_7 rfl ?_
      refine zi_get O f_Mov_12 d_Mov_twist_8 rfl rfl ?_
      refine zi_get O f_Mov_26 d_Mov_twist_11 rfl rfl ?_
      refine zi_pureV O [20, 21, 22] c_Mov_30 k_Row_isFull (m_Row_isFull n L S hn) d_Mov_twist_14 ⟨(Nat.le_of_ble_eq_true rfl), (Nat.le_of_ble_eq_true rfl)⟩ ⟨(Nat.le_of_ble_eq_true rfl), (Nat.le_of_ble_eq_true rfl)⟩ rfl rfl (Nat.le_of_ble_eq_true rfl) rfl rfl rfl rfl rfl (Nat.le_of_ble_eq_true rfl) rfl ?_
      by_cases hf : 20 ≤ n
      · rw [zb_t hf]
        refine zi_if_eq O 22 d_Mov_twist_17 (by decide) (fun c17 => ?_) (fun c17 => ?_)
        · exact absurd c17 (by decide)
        · refine zi_iconstN O 0 d_Mov_twist_20 (by decide) ?_
          refine zi_zret O d_Mov_twist_21 rfl (Nat.le_of_ble_eq_true rfl) (Nat.le_of_ble_eq_true rfl) (Nat.le_of_ble_eq_true rfl) ?_
          exact ⟨rfl, rfl⟩
      · rw [zb_f hf]
        refine zi_if_eq O 22 d_Mov_twist_17 (by decide) (fun c17 => ?_) (fun c17 => ?_)
        · refine zi_iload_n O d_Mov_twist_22 rfl ?_
          refine zi_if_ne O 38 d_Mov_twist_23 (by decide) (fun c23 => ?_) (fun c23 => ?_)
          · refine zi_aload_n O d_Mov_twist_38 rfl ?_
            refine zi_get O f_Mov_12 d_Mov_twist_39 rfl rfl ?_
            refine zi_iload_n O d_Mov_twist_42 rfl ?_
            refine zi_iload_n O d_Mov_twist_43 rfl ?_
            refine zi_iload_n O d_Mov_twist_44 rfl ?_
            refine zi_blkP O 19 (zo 0 [.ref 19, .ref 1] :: (diaH cj k L' T m' PL' LB' FR' TO' AT' F' OF' RD' ST' pc' co' OC' CE' SL').map (zc (fun q => q + 1))) (diaH ci n L S (2 * n) PL LB FR TO AT (FF (nxD fr to_ at_) (4 * n) (4 * n)).2 OF RD ST (rc oc n) (FF (nxE to_ at_) (2 * n) (2 * n)).2 OC CE SL) ([]) rfl rfl c_Mov_114 k_Dia_twistEdge (m_Dia_twistEdge_no hPk x sg y (hx.elim (fun z => absurd hs z) (fun z => z.elim (fun z => absurd z hf) (fun z => z.elim (fun z => absurd z.1 c23) (fun z => z.2))))) d_Mov_twist_45 ⟨(Nat.le_of_ble_eq_true rfl), (Nat.le_of_ble_eq_true rfl)⟩ ⟨(Nat.le_of_ble_eq_true rfl), (Nat.le_of_ble_eq_true rfl)⟩ rfl rfl (Nat.le_of_ble_eq_true rfl) rfl rfl rfl (Nat.le_of_ble_eq_true rfl) rfl rfl rfl ?_
            refine zi_zret O d_Mov_twist_48 rfl (Nat.le_of_ble_eq_true rfl) (Nat.le_of_ble_eq_true rfl) (Nat.le_of_ble_eq_true rfl) ?_
            exact ⟨rfl, rfl⟩
          · refine zi_aload_n O d_Mov_twist_26 rfl ?_
            refine zi_get O f_Mov_12 d_Mov_twist_27 rfl rfl ?_
            refine zi_iload_n O d_Mov_twist_30 rfl ?_
            refine zi_iload_n O d_Mov_twist_31 rfl ?_
            refine zi_blkP O 19 (zo 0 [.ref 19, .ref 1] :: (diaH cj k L' T m' PL' LB' FR' TO' AT' F' OF' RD' ST' pc' co' OC' CE' SL').map (zc (fun q => q + 1))) (diaH ci n L S (2 * n) PL LB FR TO AT (FF (nxD fr to_ at_) (4 * n) (4 * n)).2 OF RD ST (rc oc n) (FF (nxE to_ at_) (2 * n) (2 * n)).2 OC CE SL) ([]) rfl rfl c_Mov_110 k_Dia_twistCircle (m_Dia_twistCircle_no (dia_dr hPk) sg y (hx.elim (fun z => absurd hs z) (fun z => z.elim (fun z => absurd z hf) (fun z => z.elim (fun z => z.2) (fun z => absurd c23 z.1))))) d_Mov_twist_32 ⟨(Nat.le_of_ble_eq_true rfl), (Nat.le_of_ble_eq_true rfl)⟩ ⟨(Nat.le_of_ble_eq_true rfl), (Nat.le_of_ble_eq_true rfl)⟩ rfl rfl (Nat.le_of_ble_eq_true rfl) rfl rfl rfl (Nat.le_of_ble_eq_true rfl) rfl rfl rfl ?_
            refine zi_goto O 48 d_Mov_twist_35 (by decide) ?_
            refine zi_zret O d_Mov_twist_48 rfl (Nat.le_of_ble_eq_true rfl) (Nat.le_of_ble_eq_true rfl) (Nat.le_of_ble_eq_true rfl) ?_
            exact ⟨rfl, rfl⟩
        · exact absurd rfl c17
  · rw [zb_f hs]
    refine zi_if_eq O 20 d_Mov_twist_4 (by decide) (fun c4 => ?_) (fun c4 => ?_)
    · refine zi_iconstN O 0 d_Mov_twist_20 (by decide) ?_
      refine zi_zret O d_Mov_twist_21 rfl (Nat.le_of_ble_eq_true rfl) (Nat.le_of_ble_eq_true rfl) (Nat.le_of_ble_eq_true rfl) ?_
      exact ⟨rfl, rfl⟩
    · exact absurd rfl c4
set_option maxHeartbeats 1000000 in
theorem m_Mov_twist_c_2 {hA hB : List zE} (hP0 : Dia n lab S ci el fr to_ at_ oc hA) (hR0 : Dr k plab T cj hB) (ab : Bool) (sg : Int32) (hs : sg = nI 1 ∨ sg = -1) (hn20 : n < 20) (hc : 0 < ci) : zMet y_Mov_twist b_Mov_twist 4 (some .boolean) ⟨7, 1, 3, 200⟩ [.ref 0, .int 0, .int sg, .int (bI ab)] (movH 19 1 hB hA) (fun r h' => r = some (.int (nI 1)) ∧ Mv (ChQ (n + 1) (cr lab n sg ab (!ab) (fN el (fN el 0 (2 * n)) (2 * n)) (fN el 0 (2 * n)) (fN el (fN el 0 (2 * n)) (2 * n)) (fN el (fN el 0 (2 * n)) (2 * n)) (fN el 0 (2 * n)) (fN el (fN el 0 (2 * n)) (2 * n))) (upd S n sg) (ci - nI 1)) (Dr k plab T cj) h') := by
  have hPk := hP0
  have hRk := hR0
  obtain ⟨L, PL, LB, FR, TO, AT, OF, RD, ST, OC, CE, SL, rfl, hR, hG, hz, hE, hA, hRd, hO, hP, hOF⟩ := hP0
  have hn := hR.1
  have hFF := ff_le (by omega) (perm_D hE) (Nat.le_refl (4 * n))
  obtain ⟨L', m', PL', LB', FR', TO', AT', F', OF', RD', ST', pc', co', OC', CE', SL', rfl, hR', hG', hz'⟩ := hR0
  refine zMet_of (plainFor_of_name (by decide +kernel)) rfl (Nat.le_of_ble_eq_true rfl) (fun z1 z2 z3 z4 z5 z6 z7 z8 z9 z10 z11 z12 z13 z14 O hin => ?_)
  refine zi_ls (ls' := [some (.ref 0), some (.int 0), some (.int sg), some (.int (bI ab))]) rfl ?_
  refine zi_iload_n O d_Mov_twist_0 rfl ?_
  refine zi_pureS O [] c_Mov_23 k_Mov_isSign (m_Mov_isSign sg) d_Mov_twist_1 ⟨(Nat.le_of_ble_eq_true rfl), (Nat.le_of_ble_eq_true rfl)⟩ ⟨(Nat.le_of_ble_eq_true rfl), (Nat.le_of_ble_eq_true rfl)⟩ rfl (Nat.le_of_ble_eq_true rfl) rfl rfl rfl rfl rfl (Nat.le_of_ble_eq_true rfl) rfl ?_
  rw [zb_t hs]
  refine zi_if_eq O 20 d_Mov_twist_4 (by decide) (fun c4 => ?_) (fun c4 => ?_)
  · exact absurd c4 (by decide)
  · refine zi_aload_n O d_Mov_twist_7 rfl ?_
    refine zi_get O f_Mov_12 d_Mov_twist_8 rfl rfl ?_
    refine zi_get O f_Mov_26 d_Mov_twist_11 rfl rfl ?_
    refine zi_pureV O [20, 21, 22] c_Mov_30 k_Row_isFull (m_Row_isFull n L S hn) d_Mov_twist_14 ⟨(Nat.le_of_ble_eq_true rfl), (Nat.le_of_ble_eq_true rfl)⟩ ⟨(Nat.le_of_ble_eq_true rfl), (Nat.le_of_ble_eq_true rfl)⟩ rfl rfl (Nat.le_of_ble_eq_true rfl) rfl rfl rfl rfl rfl (Nat.le_of_ble_eq_true rfl) rfl ?_
    rw [zb_f (by omega)]
    refine zi_if_eq O 22 d_Mov_twist_17 (by decide) (fun c17 => ?_) (fun c17 => ?_)
    · refine zi_iload_n O d_Mov_twist_22 rfl ?_
      refine zi_if_ne O 38 d_Mov_twist_23 (by decide) (fun c23 => ?_) (fun c23 => ?_)
      · exact absurd rfl c23
      · refine zi_aload_n O d_Mov_twist_26 rfl ?_
        refine zi_get O f_Mov_12 d_Mov_twist_27 rfl rfl ?_
        refine zi_iload_n O d_Mov_twist_30 rfl ?_
        refine zi_iload_n O d_Mov_twist_31 rfl ?_
        refine zi_blkV O 19 (zo 0 [.ref 19, .ref 1] :: (diaH cj k L' T m' PL' LB' FR' TO' AT' F' OF' RD' ST' pc' co' OC' CE' SL').map (zc (fun q => q + 1))) (diaH ci n L S (2 * n) PL LB FR TO AT (FF (nxD fr to_ at_) (4 * n) (4 * n)).2 OF RD ST (rc oc n) (FF (nxE to_ at_) (2 * n) (2 * n)).2 OC CE SL) ([]) rfl rfl c_Mov_110 k_Dia_twistCircle (m_Dia_twistCircle hPk ab sg hs hn20 hc) d_Mov_twist_32 ⟨(Nat.le_of_ble_eq_true rfl), (Nat.le_of_ble_eq_true rfl)⟩ ⟨(Nat.le_of_ble_eq_true rfl), (Nat.le_of_ble_eq_true rfl)⟩ rfl rfl (Nat.le_of_ble_eq_true rfl) rfl rfl rfl (Nat.le_of_ble_eq_true rfl) rfl rfl (fun r h' hq => ?_) rfl (fun r h' hq => ?_)
        · exact chq_blk hq.2 rfl
        · obtain ⟨rfl, hC⟩ := hq
          have hC1 := hC
          obtain ⟨X1, x2, X3, X4, X5, X6, X7, x8, X9, X10, X11, x12, x13, X14, X15, X16, rfl⟩ := dr_form (chq_dr hC1)
          refine zi_st (st' := [.int (nI 1)]) rfl (zi_h (h' := movH 19 1 (diaH cj k L' T m' PL' LB' FR' TO' AT' F' OF' RD' ST' pc' co' OC' CE' SL') (diaH (ci - nI 1) (n + 1) X1 (upd S n sg) x2 X3 X4 X5 X6 X7 x8 X9 X10 X11 x12 x13 X14 X15 X16)) rfl ?_)
          refine zi_goto O 48 d_Mov_twist_35 (by decide) ?_
          refine zi_zret O d_Mov_twist_48 rfl (Nat.le_of_ble_eq_true rfl) (Nat.le_of_ble_eq_true rfl) (Nat.le_of_ble_eq_true rfl) ?_
          exact ⟨rfl, Or.inr ⟨_, _, hRk, hC, rfl⟩⟩
    · exact absurd rfl c17
set_option maxHeartbeats 1000000 in
theorem m_Mov_twist_e_2 {hA hB : List zE} (hP0 : Dia n lab S ci el fr to_ at_ oc hA) (hR0 : Dr k plab T cj hB) (ab : Bool) (sg : Int32) (hs : sg = nI 1 ∨ sg = -1) (hn20 : n < 20) (e : Nat) (he : e < 2 * n) : zMet y_Mov_twist b_Mov_twist 4 (some .boolean) ⟨7, 1, 3, 200⟩ [.ref 0, .int (nI (el e)), .int sg, .int (bI ab)] (movH 19 1 hB hA) (fun r h' => r = some (.int (nI 1)) ∧ Mv (ChQ (n + 1) (cr (va_up lab (to_ e) (fN el (fN el 0 (2 * n)) (2 * n))) n sg ab (!ab) (el e) (fN el 0 (2 * n)) (fN el (fN el 0 (2 * n)) (2 * n)) (el e) (fN el 0 (2 * n)) (fN el (fN el 0 (2 * n)) (2 * n))) (upd S n sg) ci) (Dr k plab T cj) h') := by
  have hPk := hP0
  have hRk := hR0
  obtain ⟨L, PL, LB, FR, TO, AT, OF, RD, ST, OC, CE, SL, rfl, hR, hG, hz, hE, hA, hRd, hO, hP, hOF⟩ := hP0
  have hn := hR.1
  have hFF := ff_le (by omega) (perm_D hE) (Nat.le_refl (4 * n))
  obtain ⟨L', m', PL', LB', FR', TO', AT', F', OF', RD', ST', pc', co', OC', CE', SL', rfl, hR', hG', hz'⟩ := hR0
  refine zMet_of (plainFor_of_name (by decide +kernel)) rfl (Nat.le_of_ble_eq_true rfl) (fun z1 z2 z3 z4 z5 z6 z7 z8 z9 z10 z11 z12 z13 z14 O hin => ?_)
  refine zi_ls (ls' := [some (.ref 0), some (.int (nI (el e))), some (.int sg), some (.int (bI ab))]) rfl ?_
  refine zi_iload_n O d_Mov_twist_0 rfl ?_
  refine zi_pureS O [] c_Mov_23 k_Mov_isSign (m_Mov_isSign sg) d_Mov_twist_1 ⟨(Nat.le_of_ble_eq_true rfl), (Nat.le_of_ble_eq_true rfl)⟩ ⟨(Nat.le_of_ble_eq_true rfl), (Nat.le_of_ble_eq_true rfl)⟩ rfl (Nat.le_of_ble_eq_true rfl) rfl rfl rfl rfl rfl (Nat.le_of_ble_eq_true rfl) rfl ?_
  rw [zb_t hs]
  refine zi_if_eq O 20 d_Mov_twist_4 (by decide) (fun c4 => ?_) (fun c4 => ?_)
  · exact absurd c4 (by decide)
  · refine zi_aload_n O d_Mov_twist_7 rfl ?_
    refine zi_get O f_Mov_12 d_Mov_twist_8 rfl rfl ?_
    refine zi_get O f_Mov_26 d_Mov_twist_11 rfl rfl ?_
    refine zi_pureV O [20, 21, 22] c_Mov_30 k_Row_isFull (m_Row_isFull n L S hn) d_Mov_twist_14 ⟨(Nat.le_of_ble_eq_true rfl), (Nat.le_of_ble_eq_true rfl)⟩ ⟨(Nat.le_of_ble_eq_true rfl), (Nat.le_of_ble_eq_true rfl)⟩ rfl rfl (Nat.le_of_ble_eq_true rfl) rfl rfl rfl rfl rfl (Nat.le_of_ble_eq_true rfl) rfl ?_
    rw [zb_f (by omega)]
    refine zi_if_eq O 22 d_Mov_twist_17 (by decide) (fun c17 => ?_) (fun c17 => ?_)
    · refine zi_iload_n O d_Mov_twist_22 rfl ?_
      refine zi_if_ne O 38 d_Mov_twist_23 (by decide) (fun c23 => ?_) (fun c23 => ?_)
      · refine zi_aload_n O d_Mov_twist_38 rfl ?_
        refine zi_get O f_Mov_12 d_Mov_twist_39 rfl rfl ?_
        refine zi_iload_n O d_Mov_twist_42 rfl ?_
        refine zi_iload_n O d_Mov_twist_43 rfl ?_
        refine zi_iload_n O d_Mov_twist_44 rfl ?_
        refine zi_blkV O 19 (zo 0 [.ref 19, .ref 1] :: (diaH cj k L' T m' PL' LB' FR' TO' AT' F' OF' RD' ST' pc' co' OC' CE' SL').map (zc (fun q => q + 1))) (diaH ci n L S (2 * n) PL LB FR TO AT (FF (nxD fr to_ at_) (4 * n) (4 * n)).2 OF RD ST (rc oc n) (FF (nxE to_ at_) (2 * n) (2 * n)).2 OC CE SL) ([]) rfl rfl c_Mov_114 k_Dia_twistEdge (m_Dia_twistEdge hPk ab sg hs hn20 e he) d_Mov_twist_45 ⟨(Nat.le_of_ble_eq_true rfl), (Nat.le_of_ble_eq_true rfl)⟩ ⟨(Nat.le_of_ble_eq_true rfl), (Nat.le_of_ble_eq_true rfl)⟩ rfl rfl (Nat.le_of_ble_eq_true rfl) rfl rfl rfl (Nat.le_of_ble_eq_true rfl) rfl rfl (fun r h' hq => ?_) rfl (fun r h' hq => ?_)
        · exact chq_blk hq.2 rfl
        · obtain ⟨rfl, hC⟩ := hq
          have hC1 := hC
          obtain ⟨X1, x2, X3, X4, X5, X6, X7, x8, X9, X10, X11, x12, x13, X14, X15, X16, rfl⟩ := dr_form (chq_dr hC1)
          refine zi_st (st' := [.int (nI 1)]) rfl (zi_h (h' := movH 19 1 (diaH cj k L' T m' PL' LB' FR' TO' AT' F' OF' RD' ST' pc' co' OC' CE' SL') (diaH ci (n + 1) X1 (upd S n sg) x2 X3 X4 X5 X6 X7 x8 X9 X10 X11 x12 x13 X14 X15 X16)) rfl ?_)
          refine zi_zret O d_Mov_twist_48 rfl (Nat.le_of_ble_eq_true rfl) (Nat.le_of_ble_eq_true rfl) (Nat.le_of_ble_eq_true rfl) ?_
          exact ⟨rfl, Or.inr ⟨_, _, hRk, hC, rfl⟩⟩
      · exact absurd c23 (nI_ne0 (by have := el_ok hR hE he; omega) (by have := el_ok hR hE he; omega))
    · exact absurd rfl c17
end
