/-! Diagram.undoAt (two crossings); slideEdge, slideAt -/
section
variable {n : Nat} {lab : Nat → Nat} {S : Nat → Int32} {ci : Int32} {el fr to_ at_ oc : Nat → Nat} {h : List zE}
theorem dr_form (hD : Dr n lab S ci h) : ∃ (L : Nat → Int32) (m : Nat) (PL LB FR TO AT : Nat → Int32) (F : Nat) (OF RD ST : Nat → Int32) (pc co : Nat) (OC CE SL : Nat → Int32), h = diaH ci n L S m PL LB FR TO AT F OF RD ST pc co OC CE SL := by
  obtain ⟨L, m, PL, LB, FR, TO, AT, F, OF, RD, ST, pc, co, OC, CE, SL, rfl, -⟩ := hD
  exact ⟨L, m, PL, LB, FR, TO, AT, F, OF, RD, ST, pc, co, OC, CE, SL, rfl⟩
theorem chq_dr (hC : ChQ n lab S ci h) : Dr n lab S ci h := by
  rcases hC with ⟨-, z⟩ | ⟨-, -, _, _, _, _, _, z⟩
  · exact z
  · exact dia_dr z
set_option maxHeartbeats 1000000 in
theorem m_Dia_undoAt_2 (hD : Dia n lab S ci el fr to_ at_ oc h) (k l t a b : Nat) (hk : k < (FF (nxD fr to_ at_) (4 * n) (4 * n)).2) (hF : FaceK n (nxD fr to_ at_) k l t) (hp : pat fr to_ (nxD fr to_ at_) l t = 2) (ha : a = mn (ca fr to_ l) (ca fr to_ (nxD fr to_ at_ l))) (hb : b = mx (ca fr to_ l) (ca fr to_ (nxD fr to_ at_ l)) - 1) : zMet y_Dia_undoAt b_Dia_undoAt 5 (some .int) ⟨5, 0, 0, 140⟩ [.ref 0, .int (nI k)] h
    (fun r h' => r = some (.int (nI 2)) ∧ a < n ∧ b < n - 1 ∧ ChQ (n - 1 - 1) (lfL (lfL lab S a) (rmS S n a) b) (rmS (rmS S n a) (n - 1) b) (lfC (lfL lab S a) (rmS S n a) b (lfC lab S a ci)) h') := by
  have hD' := hD
  obtain ⟨L, PL, LB, FR, TO, AT, OF, RD, ST, OC, CE, SL, rfl, hR, hG, hz, hE, hA, hRd, hO, hP, hOF⟩ := hD
  have hn := hR.1
  have hFF := ff_le (by omega) (perm_D hE) (Nat.le_refl (4 * n))
  obtain ⟨l', t', s, hF', hs, hs1, hs2, hr⟩ := rd_face hRd hk
  obtain ⟨rfl, rfl⟩ := faceK_uniq hF hF'
  have ht := hF.2.1
  have hl := fun i => it_lt (perm_D hE) hF.1 i
  have hl0 : l' < 4 * n := hl 0
  have hl1 : nxD fr to_ at_ l' < 4 * n := hl 1
  have h2 : t' = 2 ∧ isFin fr to_ l' (nxD fr to_ at_ l') := by
    unfold pat at hp
    split at hp
    · omega
    · split at hp
      · split at hp
        · rename_i q1 q2 q3; exact ⟨q2, q3⟩
        · omega
      · split at hp
        · split at hp <;> omega
        · omega
  obtain ⟨rfl, hfin⟩ := h2
  have c0 : ca fr to_ l' < n := by have := ar_lt hE hl0; unfold ca; omega
  have c1 : ca fr to_ (nxD fr to_ at_ l') < n := by have := ar_lt hE hl1; unfold ca; omega
  have han : a < n := by rw [ha]; unfold mn; split <;> omega
  have hbn : b < n - 1 := by
    have := hfin.1
    rw [hb]; unfold mx; split <;> omega
  refine zMet_of (plainFor_of_name (by decide +kernel)) rfl (Nat.le_of_ble_eq_true rfl) (fun z1 z2 z3 z4 z5 z6 z7 z8 z9 z10 z11 z12 z13 z14 O hin => ?_)
  refine zi_ls (ls' := [some (.ref 0), some (.int (nI k)), none, none, none]) rfl ?_
  refine zi_aload_n O d_Dia_undoAt_0 rfl ?_
  refine zi_iload_n O d_Dia_undoAt_1 rfl ?_
  refine zi_selfP O c_Dia_89 k_Dia_patternAt (m_Dia_patternAt hD' k l' 2 hk hF) d_Dia_undoAt_2 ⟨(Nat.le_of_ble_eq_true rfl), (Nat.le_of_ble_eq_true rfl)⟩ ⟨(Nat.le_of_ble_eq_true rfl), (Nat.le_of_ble_eq_true rfl)⟩ rfl rfl (Nat.le_of_ble_eq_true rfl) rfl rfl rfl (Nat.le_of_ble_eq_true rfl) rfl ?_
  rw [hp]
  refine zi_istore_n (ls' := _ :: _ :: some _ :: _) O d_Dia_undoAt_5 rfl (by decide) rfl ?_
  refine zi_iload_n O d_Dia_undoAt_6 rfl ?_
  refine zi_iconstN O 1 d_Dia_undoAt_7 (by decide) ?_
  refine zi_icmp_eqN O 18 d_Dia_undoAt_8 (by decide) (by omega) (by omega) (fun c8 => ?_) (fun c8 => ?_)
  · omega
  · refine zi_iload_n O d_Dia_undoAt_11 rfl ?_
    refine zi_iconstN O 2 d_Dia_undoAt_12 (by decide) ?_
    refine zi_icmp_eqN O 18 d_Dia_undoAt_13 (by decide) (by omega) (by omega) (fun c13 => ?_) (fun c13 => ?_)
    · refine zi_aload_n O d_Dia_undoAt_18 rfl ?_
      refine zi_aload_n O d_Dia_undoAt_19 rfl ?_
      refine zi_get O f_Dia_28 d_Dia_undoAt_20 rfl rfl ?_
      refine zi_iload_n O d_Dia_undoAt_23 rfl ?_
      refine zi_iconstN O 0 d_Dia_undoAt_24 (by decide) ?_
      refine zi_pureV O [10, 11, 12, 13] c_Dia_63 k_Fac_dart (m_Fac_dart (FF (nxD fr to_ at_) (4 * n) (4 * n)).2 OF RD ST k 0 s l' (by omega) hs1 (by omega) (hr 0 (by omega))) d_Dia_undoAt_25 ⟨(Nat.le_of_ble_eq_true rfl), (Nat.le_of_ble_eq_true rfl)⟩ ⟨(Nat.le_of_ble_eq_true rfl), (Nat.le_of_ble_eq_true rfl)⟩ rfl rfl (Nat.le_of_ble_eq_true rfl) rfl rfl rfl rfl rfl (Nat.le_of_ble_eq_true rfl) rfl ?_
      refine zi_selfP O c_Dia_78 k_Dia_crossingAhead (m_Dia_crossingAhead hD' l' hl0) d_Dia_undoAt_28 ⟨(Nat.le_of_ble_eq_true rfl), (Nat.le_of_ble_eq_true rfl)⟩ ⟨(Nat.le_of_ble_eq_true rfl), (Nat.le_of_ble_eq_true rfl)⟩ rfl rfl (Nat.le_of_ble_eq_true rfl) rfl rfl rfl (Nat.le_of_ble_eq_true rfl) rfl ?_
      refine zi_istore_n (ls' := _ :: _ :: _ :: some _ :: _) O d_Dia_undoAt_31 rfl (by decide) rfl ?_
      refine zi_iload_n O d_Dia_undoAt_32 rfl ?_
      refine zi_iconstN O 1 d_Dia_undoAt_33 (by decide) ?_
      refine zi_icmp_neN O 45 d_Dia_undoAt_34 (by decide) (by omega) (by omega) (fun c34 => ?_) (fun c34 => ?_)
      · refine zi_aload_n O d_Dia_undoAt_45 rfl ?_
        refine zi_aload_n O d_Dia_undoAt_46 rfl ?_
        refine zi_get O f_Dia_28 d_Dia_undoAt_47 rfl rfl ?_
        refine zi_iload_n O d_Dia_undoAt_50 rfl ?_
        refine zi_iconstN O 1 d_Dia_undoAt_51 (by decide) ?_
        refine zi_pureV O [10, 11, 12, 13] c_Dia_63 k_Fac_dart (m_Fac_dart (FF (nxD fr to_ at_) (4 * n) (4 * n)).2 OF RD ST k 1 s (nxD fr to_ at_ l') (by omega) hs1 (by omega) (hr 1 (by omega))) d_Dia_undoAt_52 ⟨(Nat.le_of_ble_eq_true rfl), (Nat.le_of_ble_eq_true rfl)⟩ ⟨(Nat.le_of_ble_eq_true rfl), (Nat.le_of_ble_eq_true rfl)⟩ rfl rfl (Nat.le_of_ble_eq_true rfl) rfl rfl rfl rfl rfl (Nat.le_of_ble_eq_true rfl) rfl ?_
        refine zi_selfP O c_Dia_78 k_Dia_crossingAhead (m_Dia_crossingAhead hD' (nxD fr to_ at_ l') hl1) d_Dia_undoAt_55 ⟨(Nat.le_of_ble_eq_true rfl), (Nat.le_of_ble_eq_true rfl)⟩ ⟨(Nat.le_of_ble_eq_true rfl), (Nat.le_of_ble_eq_true rfl)⟩ rfl rfl (Nat.le_of_ble_eq_true rfl) rfl rfl rfl (Nat.le_of_ble_eq_true rfl) rfl ?_
        refine zi_istore (ls' := _ :: _ :: _ :: _ :: some _ :: _) O d_Dia_undoAt_58 rfl (by decide) rfl ?_
        refine zi_aload_n O d_Dia_undoAt_60 rfl ?_
        refine zi_iload_n O d_Dia_undoAt_61 rfl ?_
        refine zi_iload O d_Dia_undoAt_62 rfl ?_
        refine zi_pureS O [] c_Dia_96 k_Math_min (m_Math_min (nI (ca fr to_ l')) (nI (ca fr to_ (nxD fr to_ at_ l')))) d_Dia_undoAt_64 ⟨(Nat.le_of_ble_eq_true rfl), (Nat.le_of_ble_eq_true rfl)⟩ ⟨(Nat.le_of_ble_eq_true rfl), (Nat.le_of_ble_eq_true rfl)⟩ rfl (Nat.le_of_ble_eq_true rfl) rfl rfl rfl rfl rfl (Nat.le_of_ble_eq_true rfl) rfl ?_
        refine zi_st (st' := [.int (nI a), .ref 0]) (by rw [jlo_N (by omega) (by omega), ha]; rfl) ?_
        refine zi_selfV O c_Dia_92 k_Dia_lift (m_Dia_lift (dia_dr hD') a han) d_Dia_undoAt_67 ⟨(Nat.le_of_ble_eq_true rfl), (Nat.le_of_ble_eq_true rfl)⟩ ⟨(Nat.le_of_ble_eq_true rfl), (Nat.le_of_ble_eq_true rfl)⟩ rfl rfl (Nat.le_of_ble_eq_true rfl) rfl rfl rfl (Nat.le_of_ble_eq_true rfl) rfl (fun r h' hq hl => ?_)
        obtain ⟨rfl, hD1⟩ := hq
        obtain ⟨L, m, PL, LB, FR, TO, AT, F, OF, RD, ST, pc, co, OC, CE, SL, rfl⟩ := dr_form hD1
        refine zi_st (st' := []) rfl ?_
        refine zi_aload_n O d_Dia_undoAt_70 rfl ?_
        refine zi_iload_n O d_Dia_undoAt_71 rfl ?_
        refine zi_iload O d_Dia_undoAt_72 rfl ?_
        refine zi_pureS O [] c_Dia_101 k_Math_max (m_Math_max (nI (ca fr to_ l')) (nI (ca fr to_ (nxD fr to_ at_ l')))) d_Dia_undoAt_74 ⟨(Nat.le_of_ble_eq_true rfl), (Nat.le_of_ble_eq_true rfl)⟩ ⟨(Nat.le_of_ble_eq_true rfl), (Nat.le_of_ble_eq_true rfl)⟩ rfl (Nat.le_of_ble_eq_true rfl) rfl rfl rfl rfl rfl (Nat.le_of_ble_eq_true rfl) rfl ?_
        refine zi_st (st' := [.int (nI (mx (ca fr to_ l') (ca fr to_ (nxD fr to_ at_ l')))), .ref 0]) (by rw [jhi_N (by omega) (by omega)]; rfl) ?_
        have hmx : 1 ≤ mx (ca fr to_ l') (ca fr to_ (nxD fr to_ at_ l')) := by
          have := hfin.1
          unfold mx; split <;> omega
        refine zi_iconstN O 1 d_Dia_undoAt_77 (by decide) ?_
        first | refine zi_isubN O d_Dia_undoAt_78 (by omega) ?_ | refine zi_isub O d_Dia_undoAt_78 ?_
        refine zi_st (st' := [.int (nI b), .ref 0]) (by rw [hb]) ?_
        refine zi_selfV O c_Dia_92 k_Dia_lift (m_Dia_lift hD1 b hbn) d_Dia_undoAt_79 ⟨(Nat.le_of_ble_eq_true rfl), (Nat.le_of_ble_eq_true rfl)⟩ ⟨(Nat.le_of_ble_eq_true rfl), (Nat.le_of_ble_eq_true rfl)⟩ rfl rfl (Nat.le_of_ble_eq_true rfl) rfl rfl rfl (Nat.le_of_ble_eq_true rfl) rfl (fun r h' hq hl => ?_)
        obtain ⟨rfl, hD2⟩ := hq
        obtain ⟨L, m, PL, LB, FR, TO, AT, F, OF, RD, ST, pc, co, OC, CE, SL, rfl⟩ := dr_form hD2
        refine zi_st (st' := []) rfl ?_
        refine zi_aload_n O d_Dia_undoAt_82 rfl ?_
        refine zi_selfV O c_Dia_104 k_Dia_chart (m_Dia_chart2 hD2) d_Dia_undoAt_83 ⟨(Nat.le_of_ble_eq_true rfl), (Nat.le_of_ble_eq_true rfl)⟩ ⟨(Nat.le_of_ble_eq_true rfl), (Nat.le_of_ble_eq_true rfl)⟩ rfl rfl (Nat.le_of_ble_eq_true rfl) rfl rfl rfl (Nat.le_of_ble_eq_true rfl) rfl (fun r h' hq hl => ?_)
        obtain ⟨⟨x, rfl⟩, hC⟩ := hq
        obtain ⟨L, m, PL, LB, FR, TO, AT, F, OF, RD, ST, pc, co, OC, CE, SL, rfl⟩ := dr_form (chq_dr hC)
        refine zi_st (st' := [.int x]) rfl ?_
        refine zi_pop O d_Dia_undoAt_86 rfl ?_
        refine zi_iload_n O d_Dia_undoAt_87 rfl ?_
        refine zi_iret O d_Dia_undoAt_88 (Nat.le_of_ble_eq_true rfl) (Nat.le_of_ble_eq_true rfl) (Nat.le_of_ble_eq_true rfl) ?_
        exact ⟨rfl, han, hbn, hC⟩
      · omega
    · omega
/-- one edge of a slide -/
def sE (el fr to_ lab X : Nat → Nat) (e : Nat) : Nat → Nat := va_up (va_up (va_up (va_up X (ac (fr e)) (el e)) (fr e) (lab (ac (to_ e)))) (to_ e) (lab (ac (fr e)))) (ac (to_ e)) (el e)
theorem hold_up {N : Nat} {SL : Nat → Int32} {X : Nat → Nat} (h : ∀ q, q < N → SL q = nI (X q)) (k v : Nat) : ∀ q, q < N → upd SL k (nI v) q = nI (va_up X k v q) := by
  intro q hq
  unfold upd va_up
  split
  · rfl
  · exact h q hq
set_option maxHeartbeats 1000000 in
theorem m_Dia_slideEdge {L PL LB FR TO AT OF RD ST OC CE SL : Nat → Int32} {F pc co : Nat} {X : Nat → Nat} (hR : RowOK n L lab) (hE : Ed n lab S el fr to_ at_) (hA : EdA n el fr to_ at_ LB FR TO AT) (hX : ∀ q, q < 4 * n → SL q = nI (X q)) (e : Nat) (he : e < 2 * n) : zMet y_Dia_slideEdge b_Dia_slideEdge 6 none ⟨0, 0, 0, 0⟩ [.ref 0, .int (nI e)] (diaH ci n L S (2 * n) PL LB FR TO AT F OF RD ST pc co OC CE SL)
    (fun r h' => r = none ∧ ∃ SL' : Nat → Int32, h' = diaH ci n L S (2 * n) PL LB FR TO AT F OF RD ST pc co OC CE SL' ∧ ∀ q, q < 4 * n → SL' q = nI (sE el fr to_ lab X e q)) := by
  have hn := hR.1
  obtain ⟨b1, b2, b3, b4, b5, b6⟩ := hE.1 e he
  obtain ⟨a1, a2, a3⟩ := hA.1 e he
  have d1 := ac_lt b1
  have d2 := ac_lt b2
  refine zMet_of (plainFor_of_name (by decide +kernel)) rfl (Nat.le_of_ble_eq_true rfl) (fun z1 z2 z3 z4 z5 z6 z7 z8 z9 z10 z11 z12 z13 z14 O hin => ?_)
  refine zi_ls (ls' := [some (.ref 0), some (.int (nI e)), none, none, none, none]) rfl ?_
  refine zi_aload_n O d_Dia_slideEdge_0 rfl ?_
  refine zi_get O f_Dia_21 d_Dia_slideEdge_1 rfl rfl ?_
  refine zi_get O f_Dia_136 d_Dia_slideEdge_4 rfl rfl ?_
  refine zi_iload_n O d_Dia_slideEdge_7 rfl ?_
  refine zi_iald O d_Dia_slideEdge_8 rfl rfl (by omega) (Nat.le_of_ble_eq_true rfl) ?_
  rw [a2]
  refine zi_istore_n (ls' := _ :: _ :: some _ :: _) O d_Dia_slideEdge_9 rfl (by decide) rfl ?_
  refine zi_aload_n O d_Dia_slideEdge_10 rfl ?_
  refine zi_get O f_Dia_21 d_Dia_slideEdge_11 rfl rfl ?_
  refine zi_get O f_Dia_139 d_Dia_slideEdge_14 rfl rfl ?_
  refine zi_iload_n O d_Dia_slideEdge_17 rfl ?_
  refine zi_iald O d_Dia_slideEdge_18 rfl rfl (by omega) (Nat.le_of_ble_eq_true rfl) ?_
  rw [a3]
  refine zi_istore_n (ls' := _ :: _ :: _ :: some _ :: _) O d_Dia_slideEdge_19 rfl (by decide) rfl ?_
  refine zi_aload_n O d_Dia_slideEdge_20 rfl ?_
  refine zi_get O f_Dia_12 d_Dia_slideEdge_21 rfl rfl ?_
  refine zi_get O f_Dia_124 d_Dia_slideEdge_24 rfl rfl ?_
  refine zi_iload_n O d_Dia_slideEdge_27 rfl ?_
  refine zi_iconstN O 2 d_Dia_slideEdge_28 (by decide) ?_
  refine zi_ixor O d_Dia_slideEdge_29 ?_
  rw [xor2 _ (by omega)]
  refine zi_iald O d_Dia_slideEdge_30 rfl rfl (by omega) (Nat.le_of_ble_eq_true rfl) ?_
  rw [(hR.2 _ d1).1]
  refine zi_istore (ls' := _ :: _ :: _ :: _ :: some _ :: _) O d_Dia_slideEdge_31 rfl (by decide) rfl ?_
  refine zi_aload_n O d_Dia_slideEdge_33 rfl ?_
  refine zi_get O f_Dia_12 d_Dia_slideEdge_34 rfl rfl ?_
  refine zi_get O f_Dia_124 d_Dia_slideEdge_37 rfl rfl ?_
  refine zi_iload_n O d_Dia_slideEdge_40 rfl ?_
  refine zi_iconstN O 2 d_Dia_slideEdge_41 (by decide) ?_
  refine zi_ixor O d_Dia_slideEdge_42 ?_
  rw [xor2 _ (by omega)]
  refine zi_iald O d_Dia_slideEdge_43 rfl rfl (by omega) (Nat.le_of_ble_eq_true rfl) ?_
  rw [(hR.2 _ d2).1]
  refine zi_istore (ls' := _ :: _ :: _ :: _ :: _ :: some _ :: _) O d_Dia_slideEdge_44 rfl (by decide) rfl ?_
  refine zi_aload_n O d_Dia_slideEdge_46 rfl ?_
  refine zi_get O f_Dia_39 d_Dia_slideEdge_47 rfl rfl ?_
  refine zi_iload_n O d_Dia_slideEdge_50 rfl ?_
  refine zi_iconstN O 2 d_Dia_slideEdge_51 (by decide) ?_
  refine zi_ixor O d_Dia_slideEdge_52 ?_
  rw [xor2 _ (by omega)]
  refine zi_aload_n O d_Dia_slideEdge_53 rfl ?_
  refine zi_get O f_Dia_21 d_Dia_slideEdge_54 rfl rfl ?_
  refine zi_get O f_Dia_142 d_Dia_slideEdge_57 rfl rfl ?_
  refine zi_iload_n O d_Dia_slideEdge_60 rfl ?_
  refine zi_iald O d_Dia_slideEdge_61 rfl rfl (by omega) (Nat.le_of_ble_eq_true rfl) ?_
  rw [a1]
  refine zi_iast O d_Dia_slideEdge_62 rfl rfl (by omega) (Nat.le_of_ble_eq_true rfl) (by dsimp only [List.set]) ?_
  refine zi_aload_n O d_Dia_slideEdge_63 rfl ?_
  refine zi_get O f_Dia_39 d_Dia_slideEdge_64 rfl rfl ?_
  refine zi_iload_n O d_Dia_slideEdge_67 rfl ?_
  refine zi_iload O d_Dia_slideEdge_68 rfl ?_
  refine zi_iast O d_Dia_slideEdge_70 rfl rfl (by omega) (Nat.le_of_ble_eq_true rfl) (by dsimp only [List.set]) ?_
  refine zi_aload_n O d_Dia_slideEdge_71 rfl ?_
  refine zi_get O f_Dia_39 d_Dia_slideEdge_72 rfl rfl ?_
  refine zi_iload_n O d_Dia_slideEdge_75 rfl ?_
  refine zi_iload O d_Dia_slideEdge_76 rfl ?_
  refine zi_iast O d_Dia_slideEdge_78 rfl rfl (by omega) (Nat.le_of_ble_eq_true rfl) (by dsimp only [List.set]) ?_
  refine zi_aload_n O d_Dia_slideEdge_79 rfl ?_
  refine zi_get O f_Dia_39 d_Dia_slideEdge_80 rfl rfl ?_
  refine zi_iload_n O d_Dia_slideEdge_83 rfl ?_
  refine zi_iconstN O 2 d_Dia_slideEdge_84 (by decide) ?_
  refine zi_ixor O d_Dia_slideEdge_85 ?_
  rw [xor2 _ (by omega)]
  refine zi_aload_n O d_Dia_slideEdge_86 rfl ?_
  refine zi_get O f_Dia_21 d_Dia_slideEdge_87 rfl rfl ?_
  refine zi_get O f_Dia_142 d_Dia_slideEdge_90 rfl rfl ?_
  refine zi_iload_n O d_Dia_slideEdge_93 rfl ?_
  refine zi_iald O d_Dia_slideEdge_94 rfl rfl (by omega) (Nat.le_of_ble_eq_true rfl) ?_
  rw [a1]
  refine zi_iast O d_Dia_slideEdge_95 rfl rfl (by omega) (Nat.le_of_ble_eq_true rfl) (by dsimp only [List.set]) ?_
  refine zi_vret O d_Dia_slideEdge_96 (Nat.le_of_ble_eq_true rfl) (Nat.le_of_ble_eq_true rfl) (Nat.le_of_ble_eq_true rfl) ?_
  exact ⟨rfl, _, rfl, hold_up (hold_up (hold_up (hold_up hX _ _) _ _) _ _) _ _⟩
def sl3 (el fr to_ lab : Nat → Nat) (a b c : Nat) : Nat → Nat := sE el fr to_ lab (sE el fr to_ lab (sE el fr to_ lab lab a) b) c
theorem sE_in {n : Nat} (hE : Ed n lab S el fr to_ at_) {X : Nat → Nat} {L : Nat → Int32} (hR : RowOK n L lab) (hX : ∀ q, q < 4 * n → 1 ≤ X q ∧ X q ≤ 9999) {e : Nat} (he : e < 2 * n) : ∀ q, q < 4 * n → 1 ≤ sE el fr to_ lab X e q ∧ sE el fr to_ lab X e q ≤ 9999 := by
  intro q hq
  obtain ⟨b1, b2, b3, b4, b5, b6⟩ := hE.1 e he
  have c1 := (hR.2 _ b1).2
  have c2 := (hR.2 _ (ac_lt b1)).2
  have c3 := (hR.2 _ (ac_lt b2)).2
  rw [b3] at c1
  unfold sE va_up
  split
  · exact c1
  · split
    · exact c2
    · split
      · exact c3
      · split
        · exact c1
        · exact hX q hq
theorem m_Dia_slideAt_no (hD : Dia n lab S ci el fr to_ at_ oc h) (k l t : Nat) (hk : k < (FF (nxD fr to_ at_) (4 * n) (4 * n)).2) (hF : FaceK n (nxD fr to_ at_) k l t) (hp : pat fr to_ (nxD fr to_ at_) l t ≠ 3) : zPu y_Dia_slideAt b_Dia_slideAt 3 (some .boolean) ⟨5, 0, 0, 140⟩ [.ref 0, .int (nI k)] h (.int (nI 0)) := by
  have hD' := hD
  obtain ⟨L, PL, LB, FR, TO, AT, OF, RD, ST, OC, CE, SL, rfl, hR, hG, hz, hE, hA, hRd, hO, hP, hOF⟩ := hD
  have hpl := pat_le (fr := fr) (to_ := to_) (nxD fr to_ at_) l t
  refine zMet_of (plainFor_of_name (by decide +kernel)) rfl (Nat.le_of_ble_eq_true rfl) (fun z1 z2 z3 z4 z5 z6 z7 z8 z9 z10 z11 z12 z13 z14 O hin => ?_)
  refine zi_ls (ls' := [some (.ref 0), some (.int (nI k)), none]) rfl ?_
  refine zi_aload_n O d_Dia_slideAt_0 rfl ?_
  refine zi_iload_n O d_Dia_slideAt_1 rfl ?_
  refine zi_selfP O c_Dia_89 k_Dia_patternAt (m_Dia_patternAt hD' k l t hk hF) d_Dia_slideAt_2 ⟨(Nat.le_of_ble_eq_true rfl), (Nat.le_of_ble_eq_true rfl)⟩ ⟨(Nat.le_of_ble_eq_true rfl), (Nat.le_of_ble_eq_true rfl)⟩ rfl rfl (Nat.le_of_ble_eq_true rfl) rfl rfl rfl (Nat.le_of_ble_eq_true rfl) rfl ?_
  refine zi_iconstN O 3 d_Dia_slideAt_5 (by decide) ?_
  refine zi_icmp_eqN O 11 d_Dia_slideAt_6 (by decide) (by omega) (by omega) (fun c6 => ?_) (fun c6 => ?_)
  · omega
  · refine zi_iconstN O 0 d_Dia_slideAt_9 (by decide) ?_
    refine zi_zret O d_Dia_slideAt_10 rfl (Nat.le_of_ble_eq_true rfl) (Nat.le_of_ble_eq_true rfl) (Nat.le_of_ble_eq_true rfl) ?_
    exact ⟨rfl, rfl⟩
set_option maxHeartbeats 1000000 in
theorem m_Dia_slideAt (hD : Dia n lab S ci el fr to_ at_ oc h) (k l t : Nat) (hk : k < (FF (nxD fr to_ at_) (4 * n) (4 * n)).2) (hF : FaceK n (nxD fr to_ at_) k l t) (hp : pat fr to_ (nxD fr to_ at_) l t = 3) : zMet y_Dia_slideAt b_Dia_slideAt 3 (some .boolean) ⟨5, 0, 0, 140⟩ [.ref 0, .int (nI k)] h
    (fun r h' => r = some (.int (nI 1)) ∧ t = 3 ∧ ChQ n (sl3 el fr to_ lab (l / 2) (nxD fr to_ at_ l / 2) (nxD fr to_ at_ (nxD fr to_ at_ l) / 2)) S ci h') := by
  have hD' := hD
  obtain ⟨L, PL, LB, FR, TO, AT, OF, RD, ST, OC, CE, SL, rfl, hR, hG, hz, hE, hA, hRd, hO, hP, hOF⟩ := hD
  have hn := hR.1
  have hFF := ff_le (by omega) (perm_D hE) (Nat.le_refl (4 * n))
  obtain ⟨l', t', s, hF', hs, hs1, hs2, hr⟩ := rd_face hRd hk
  obtain ⟨rfl, rfl⟩ := faceK_uniq hF hF'
  have hl := fun i => it_lt (perm_D hE) hF.1 i
  have hl0 : l' < 4 * n := hl 0
  have hl1 : nxD fr to_ at_ l' < 4 * n := hl 1
  have hl2 : nxD fr to_ at_ (nxD fr to_ at_ l') < 4 * n := hl 2
  have h2 : t' = 3 := by
    unfold pat at hp
    split at hp
    · omega
    · split at hp
      · split at hp <;> omega
      · split at hp
        · assumption
        · omega
  subst h2
  refine zMet_of (plainFor_of_name (by decide +kernel)) rfl (Nat.le_of_ble_eq_true rfl) (fun z1 z2 z3 z4 z5 z6 z7 z8 z9 z10 z11 z12 z13 z14 O hin => ?_)
  refine zi_ls (ls' := [some (.ref 0), some (.int (nI k)), none]) rfl ?_
  refine zi_aload_n O d_Dia_slideAt_0 rfl ?_
  refine zi_iload_n O d_Dia_slideAt_1 rfl ?_
  refine zi_selfP O c_Dia_89 k_Dia_patternAt (m_Dia_patternAt hD' k l' 3 hk hF) d_Dia_slideAt_2 ⟨(Nat.le_of_ble_eq_true rfl), (Nat.le_of_ble_eq_true rfl)⟩ ⟨(Nat.le_of_ble_eq_true rfl), (Nat.le_of_ble_eq_true rfl)⟩ rfl rfl (Nat.le_of_ble_eq_true rfl) rfl rfl rfl (Nat.le_of_ble_eq_true rfl) rfl ?_
  rw [hp]
  refine zi_iconstN O 3 d_Dia_slideAt_5 (by decide) ?_
  refine zi_icmp_eqN O 11 d_Dia_slideAt_6 (by decide) (by omega) (by omega) (fun c6 => ?_) (fun c6 => ?_)
  · refine zi_aload_n O d_Dia_slideAt_11 rfl ?_
    refine zi_get O f_Dia_12 d_Dia_slideAt_12 rfl rfl ?_
    refine zi_get O f_Dia_124 d_Dia_slideAt_15 rfl rfl ?_
    refine zi_iconstN O 0 d_Dia_slideAt_18 (by decide) ?_
    refine zi_aload_n O d_Dia_slideAt_19 rfl ?_
    refine zi_get O f_Dia_39 d_Dia_slideAt_20 rfl rfl ?_
    refine zi_iconstN O 0 d_Dia_slideAt_23 (by decide) ?_
    refine zi_bipushN O 80 d_Dia_slideAt_24 (by decide) ?_
    refine zi_copy O d_Dia_slideAt_26 z_ac_Dia z_ac1 z_ac2 z_ac3 rfl rfl rfl rfl rfl (by omega) (by omega) (by decide) (by decide) (Nat.le_of_ble_eq_true rfl) (Nat.le_of_ble_eq_true rfl) (by dsimp only [List.set]) ?_
    generalize hSL : va_cpy L SL 0 0 80 = SL0
    have hX0 : ∀ q, q < 4 * n → SL0 q = nI (lab q) := by
      intro q hq
      rw [← hSL, sb_cpy0 (by omega)]
      exact (hR.2 q hq).1
    refine zi_iconstN O 0 d_Dia_slideAt_29 (by decide) ?_
    refine zi_istore_n (ls' := _ :: _ :: some _ :: _) O d_Dia_slideAt_30 rfl (by decide) rfl ?_
    refine zi_iload_n O d_Dia_slideAt_31 rfl ?_
    refine zi_iconstN O 3 d_Dia_slideAt_32 (by decide) ?_
    refine zi_icmp_geN O 57 d_Dia_slideAt_33 (by decide) (by omega) (by omega) (fun c33 => ?_) (fun c33 => ?_)
    · omega
    · refine zi_aload_n O d_Dia_slideAt_36 rfl ?_
      refine zi_aload_n O d_Dia_slideAt_37 rfl ?_
      refine zi_get O f_Dia_28 d_Dia_slideAt_38 rfl rfl ?_
      refine zi_iload_n O d_Dia_slideAt_41 rfl ?_
      refine zi_iload_n O d_Dia_slideAt_42 rfl ?_
      refine zi_pureV O [10, 11, 12, 13] c_Dia_63 k_Fac_dart (m_Fac_dart (FF (nxD fr to_ at_) (4 * n) (4 * n)).2 OF RD ST k 0 s l' (by omega) hs1 (by omega) (hr 0 (by omega))) d_Dia_slideAt_43 ⟨(Nat.le_of_ble_eq_true rfl), (Nat.le_of_ble_eq_true rfl)⟩ ⟨(Nat.le_of_ble_eq_true rfl), (Nat.le_of_ble_eq_true rfl)⟩ rfl rfl (Nat.le_of_ble_eq_true rfl) rfl rfl rfl rfl rfl (Nat.le_of_ble_eq_true rfl) rfl ?_
      refine zi_iconstN O 1 d_Dia_slideAt_46 (by decide) ?_
      first | refine zi_ishrN O 2 2 d_Dia_slideAt_47 (by decide) (by omega) ?_ | refine zi_ishrN O 1 1 d_Dia_slideAt_47 (by decide) (by omega) ?_
      refine zi_selfV O c_Dia_133 k_Dia_slideEdge (m_Dia_slideEdge hR hE hA hX0 (l' / 2 ^ 1) (by omega)) d_Dia_slideAt_48 ⟨(Nat.le_of_ble_eq_true rfl), (Nat.le_of_ble_eq_true rfl)⟩ ⟨(Nat.le_of_ble_eq_true rfl), (Nat.le_of_ble_eq_true rfl)⟩ rfl rfl (Nat.le_of_ble_eq_true rfl) rfl rfl rfl (Nat.le_of_ble_eq_true rfl) rfl (fun r h' hq hl => ?_)
      obtain ⟨rfl, SL1, rfl, hX1⟩ := hq
      refine zi_st (st' := []) rfl ?_
      refine zi_iincN (ls' := _ :: _ :: some _ :: _) O 1 d_Dia_slideAt_51 rfl (by decide) rfl (by decide) rfl ?_
      refine zi_goto O 31 d_Dia_slideAt_54 (by decide) ?_
      refine zi_iload_n O d_Dia_slideAt_31 rfl ?_
      refine zi_iconstN O 3 d_Dia_slideAt_32 (by decide) ?_
      refine zi_icmp_geN O 57 d_Dia_slideAt_33 (by decide) (by omega) (by omega) (fun c33 => ?_) (fun c33 => ?_)
      · omega
      · refine zi_aload_n O d_Dia_slideAt_36 rfl ?_
        refine zi_aload_n O d_Dia_slideAt_37 rfl ?_
        refine zi_get O f_Dia_28 d_Dia_slideAt_38 rfl rfl ?_
        refine zi_iload_n O d_Dia_slideAt_41 rfl ?_
        refine zi_iload_n O d_Dia_slideAt_42 rfl ?_
        refine zi_pureV O [10, 11, 12, 13] c_Dia_63 k_Fac_dart (m_Fac_dart (FF (nxD fr to_ at_) (4 * n) (4 * n)).2 OF RD ST k 1 s (nxD fr to_ at_ l') (by omega) hs1 (by omega) (hr 1 (by omega))) d_Dia_slideAt_43 ⟨(Nat.le_of_ble_eq_true rfl), (Nat.le_of_ble_eq_true rfl)⟩ ⟨(Nat.le_of_ble_eq_true rfl), (Nat.le_of_ble_eq_true rfl)⟩ rfl rfl (Nat.le_of_ble_eq_true rfl) rfl rfl rfl rfl rfl (Nat.le_of_ble_eq_true rfl) rfl ?_
        refine zi_iconstN O 1 d_Dia_slideAt_46 (by decide) ?_
        first | refine zi_ishrN O 2 2 d_Dia_slideAt_47 (by decide) (by omega) ?_ | refine zi_ishrN O 1 1 d_Dia_slideAt_47 (by decide) (by omega) ?_
        refine zi_selfV O c_Dia_133 k_Dia_slideEdge (m_Dia_slideEdge hR hE hA hX1 (nxD fr to_ at_ l' / 2 ^ 1) (by omega)) d_Dia_slideAt_48 ⟨(Nat.le_of_ble_eq_true rfl), (Nat.le_of_ble_eq_true rfl)⟩ ⟨(Nat.le_of_ble_eq_true rfl), (Nat.le_of_ble_eq_true rfl)⟩ rfl rfl (Nat.le_of_ble_eq_true rfl) rfl rfl rfl (Nat.le_of_ble_eq_true rfl) rfl (fun r h' hq hl => ?_)
        obtain ⟨rfl, SL2, rfl, hX2⟩ := hq
        refine zi_st (st' := []) rfl ?_
        refine zi_iincN (ls' := _ :: _ :: some _ :: _) O 1 d_Dia_slideAt_51 rfl (by decide) rfl (by decide) rfl ?_
        refine zi_goto O 31 d_Dia_slideAt_54 (by decide) ?_
        refine zi_iload_n O d_Dia_slideAt_31 rfl ?_
        refine zi_iconstN O 3 d_Dia_slideAt_32 (by decide) ?_
        refine zi_icmp_geN O 57 d_Dia_slideAt_33 (by decide) (by omega) (by omega) (fun c33 => ?_) (fun c33 => ?_)
        · omega
        · refine zi_aload_n O d_Dia_slideAt_36 rfl ?_
          refine zi_aload_n O d_Dia_slideAt_37 rfl ?_
          refine zi_get O f_Dia_28 d_Dia_slideAt_38 rfl rfl ?_
          refine zi_iload_n O d_Dia_slideAt_41 rfl ?_
          refine zi_iload_n O d_Dia_slideAt_42 rfl ?_
          refine zi_pureV O [10, 11, 12, 13] c_Dia_63 k_Fac_dart (m_Fac_dart (FF (nxD fr to_ at_) (4 * n) (4 * n)).2 OF RD ST k 2 s (nxD fr to_ at_ (nxD fr to_ at_ l')) (by omega) hs1 (by omega) (hr 2 (by omega))) d_Dia_slideAt_43 ⟨(Nat.le_of_ble_eq_true rfl), (Nat.le_of_ble_eq_true rfl)⟩ ⟨(Nat.le_of_ble_eq_true rfl), (Nat.le_of_ble_eq_true rfl)⟩ rfl rfl (Nat.le_of_ble_eq_true rfl) rfl rfl rfl rfl rfl (Nat.le_of_ble_eq_true rfl) rfl ?_
          refine zi_iconstN O 1 d_Dia_slideAt_46 (by decide) ?_
          first | refine zi_ishrN O 2 2 d_Dia_slideAt_47 (by decide) (by omega) ?_ | refine zi_ishrN O 1 1 d_Dia_slideAt_47 (by decide) (by omega) ?_
          refine zi_selfV O c_Dia_133 k_Dia_slideEdge (m_Dia_slideEdge hR hE hA hX2 (nxD fr to_ at_ (nxD fr to_ at_ l') / 2 ^ 1) (by omega)) d_Dia_slideAt_48 ⟨(Nat.le_of_ble_eq_true rfl), (Nat.le_of_ble_eq_true rfl)⟩ ⟨(Nat.le_of_ble_eq_true rfl), (Nat.le_of_ble_eq_true rfl)⟩ rfl rfl (Nat.le_of_ble_eq_true rfl) rfl rfl rfl (Nat.le_of_ble_eq_true rfl) rfl (fun r h' hq hl => ?_)
          obtain ⟨rfl, SL3, rfl, hX3⟩ := hq
          refine zi_st (st' := []) rfl ?_
          refine zi_iincN (ls' := _ :: _ :: some _ :: _) O 1 d_Dia_slideAt_51 rfl (by decide) rfl (by decide) rfl ?_
          refine zi_goto O 31 d_Dia_slideAt_54 (by decide) ?_
          refine zi_iload_n O d_Dia_slideAt_31 rfl ?_
          refine zi_iconstN O 3 d_Dia_slideAt_32 (by decide) ?_
          refine zi_icmp_geN O 57 d_Dia_slideAt_33 (by decide) (by omega) (by omega) (fun c33 => ?_) (fun c33 => ?_)
          · refine zi_aload_n O d_Dia_slideAt_57 rfl ?_
            refine zi_get O f_Dia_39 d_Dia_slideAt_58 rfl rfl ?_
            refine zi_iconstN O 0 d_Dia_slideAt_61 (by decide) ?_
            refine zi_aload_n O d_Dia_slideAt_62 rfl ?_
            refine zi_get O f_Dia_12 d_Dia_slideAt_63 rfl rfl ?_
            refine zi_get O f_Dia_124 d_Dia_slideAt_66 rfl rfl ?_
            refine zi_iconstN O 0 d_Dia_slideAt_69 (by decide) ?_
            refine zi_bipushN O 80 d_Dia_slideAt_70 (by decide) ?_
            refine zi_copy O d_Dia_slideAt_72 z_ac_Dia z_ac1 z_ac2 z_ac3 rfl rfl rfl rfl rfl (by omega) (by omega) (by decide) (by decide) (Nat.le_of_ble_eq_true rfl) (Nat.le_of_ble_eq_true rfl) (by dsimp only [List.set]) ?_
            generalize hL3 : va_cpy SL3 L 0 0 80 = L3
            have hRow : RowOK n L3 (sl3 el fr to_ lab (l' / 2) (nxD fr to_ at_ l' / 2) (nxD fr to_ at_ (nxD fr to_ at_ l') / 2)) := by
              refine ⟨hn, fun q hq => ⟨?_, ?_⟩⟩
              · rw [← hL3, sb_cpy0 (by omega)]
                exact hX3 q hq
              · exact sE_in hE hR (sE_in hE hR (sE_in hE hR (fun q hq => (hR.2 q hq).2) (by omega)) (by omega)) (by omega) q hq
            refine zi_aload_n O d_Dia_slideAt_75 rfl ?_
            refine zi_selfV O c_Dia_104 k_Dia_chart (m_Dia_chart2 (n := n) (lab := sl3 el fr to_ lab (l' / 2) (nxD fr to_ at_ l' / 2) (nxD fr to_ at_ (nxD fr to_ at_ l') / 2)) (S := S) (ci := ci) ⟨L3, _, PL, LB, FR, TO, AT, _, _, RD, ST, _, _, OC, _, SL3, rfl, hRow, hG, hz⟩) d_Dia_slideAt_76 ⟨(Nat.le_of_ble_eq_true rfl), (Nat.le_of_ble_eq_true rfl)⟩ ⟨(Nat.le_of_ble_eq_true rfl), (Nat.le_of_ble_eq_true rfl)⟩ rfl rfl (Nat.le_of_ble_eq_true rfl) rfl rfl rfl (Nat.le_of_ble_eq_true rfl) rfl (fun r h' hq hl => ?_)
            obtain ⟨⟨x, rfl⟩, hC⟩ := hq
            obtain ⟨L, m, PL, LB, FR, TO, AT, F, OF, RD, ST, pc, co, OC, CE, SL, rfl⟩ := dr_form (chq_dr hC)
            refine zi_st (st' := [.int x]) rfl ?_
            refine zi_pop O d_Dia_slideAt_79 rfl ?_
            refine zi_iconstN O 1 d_Dia_slideAt_80 (by decide) ?_
            refine zi_zret O d_Dia_slideAt_81 rfl (Nat.le_of_ble_eq_true rfl) (Nat.le_of_ble_eq_true rfl) (Nat.le_of_ble_eq_true rfl) ?_
            exact ⟨rfl, rfl, hC⟩
          · omega
  · omega
end
