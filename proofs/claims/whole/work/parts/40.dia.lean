/-! Diagram: its cells; chart -/
abbrev diaH (ci : Int32) (n : Nat) (L S : Nat → Int32) (m : Nat) (PL LB FR TO AT : Nat → Int32) (F : Nat) (OF RD ST : Nat → Int32) (pc co : Nat) (OC CE SL : Nat → Int32) : List zE :=
  [zo 1 [.ref 1, .ref 4, .ref 10, .ref 14, .ref 17, .int ci], zo 2 [.ref 2, .ref 3, .int (nI n)], za 80 L, za 20 S, zo 3 [.ref 5, .ref 6, .ref 7, .ref 8, .ref 9, .int (nI m)], za 80 PL, za 40 LB, za 40 FR, za 40 TO, za 80 AT, zo 4 [.ref 11, .ref 12, .ref 13, .int (nI F)], za 80 OF, za 80 RD, za 81 ST, zo 5 [.ref 15, .ref 16, .int (nI pc), .int (nI co)], za 20 OC, za 40 CE, za 80 SL]
def Sg (n : Nat) (S : Nat → Int32) : Prop := ∀ c, c < n → S c = nI 1 ∨ S c = -1
/-- a row of crossings, whatever its chart is -/
def Dr (n : Nat) (lab : Nat → Nat) (S : Nat → Int32) (ci : Int32) (h : List zE) : Prop := ∃ (L : Nat → Int32) (m : Nat) (PL LB FR TO AT : Nat → Int32) (F : Nat) (OF RD ST : Nat → Int32) (pc co : Nat) (OC CE SL : Nat → Int32), h = diaH ci n L S m PL LB FR TO AT F OF RD ST pc co OC CE SL ∧ RowOK n L lab ∧ Sg n S ∧ ST 0 = nI 0
/-- a row of crossings with its chart -/
def Dia (n : Nat) (lab : Nat → Nat) (S : Nat → Int32) (ci : Int32) (el fr to_ at_ oc : Nat → Nat) (h : List zE) : Prop := ∃ (L PL LB FR TO AT OF RD ST OC CE SL : Nat → Int32), h = diaH ci n L S (2 * n) PL LB FR TO AT (FF (nxD fr to_ at_) (4 * n) (4 * n)).2 OF RD ST (rc oc n) (FF (nxE to_ at_) (2 * n) (2 * n)).2 OC CE SL ∧ RowOK n L lab ∧ Sg n S ∧ ST 0 = nI 0 ∧ Ed n lab S el fr to_ at_ ∧ EdA n el fr to_ at_ LB FR TO AT ∧ RdOK (4 * n) (nxD fr to_ at_) (4 * n) RD ST ∧ (∀ c, c < n → OC c = nI (oc c)) ∧ PcE (2 * n) n fr to_ oc ∧ ∀ d, d < 4 * n → OF d = (FF (nxD fr to_ at_) (4 * n) (4 * n)).1 d
set_option maxHeartbeats 1000000 in
theorem m_Dia_chart {n : Nat} {lab : Nat → Nat} {S : Nat → Int32} {ci : Int32} {h : List zE} (hD : Dr n lab S ci h) : zMet y_Dia_chart b_Dia_chart 2 (some .int) ⟨4, 0, 0, 110⟩ [.ref 0] h
    (fun r h' => (r = some (.int (nI 1)) ∧ ¬ C1 n lab ∧ Dr n lab S ci h') ∨ (r = some (.int (nI 2)) ∧ C1 n lab ∧ ¬ C2 n lab S ∧ Dr n lab S ci h') ∨ (C1 n lab ∧ C2 n lab S ∧ ∃ el fr to_ at_ oc : Nat → Nat, Dia n lab S ci el fr to_ at_ oc h' ∧ r = some (.int (nI (if (FF (nxD fr to_ at_) (4 * n) (4 * n)).2 = n + 2 * rc oc n then 0 else 3))))) := by
  obtain ⟨L, m, PL, LB, FR, TO, AT, F, OF, RD, ST, pc, co, OC, CE, SL, rfl, hR, hG, hz⟩ := hD
  have hn := hR.1
  refine zMet_of (plainFor_of_name (by decide +kernel)) rfl (Nat.le_of_ble_eq_true rfl) (fun z1 z2 z3 z4 z5 z6 z7 z8 z9 z10 z11 z12 z13 z14 O hin => ?_)
  refine zi_ls (ls' := [some (.ref 0), none]) rfl ?_
  refine zi_aload_n O d_Dia_chart_0 rfl ?_
  refine zi_get O f_Dia_21 d_Dia_chart_1 rfl rfl ?_
  refine zi_aload_n O d_Dia_chart_4 rfl ?_
  refine zi_get O f_Dia_12 d_Dia_chart_5 rfl rfl ?_
  refine zi_callV O [4, 5, 6, 7, 8, 9, 1, 2, 3] c_Dia_43 k_Edg_find (m_Edg_find m PL LB FR TO AT n L S lab hR) d_Dia_chart_8 ⟨(Nat.le_of_ble_eq_true rfl), (Nat.le_of_ble_eq_true rfl)⟩ ⟨(Nat.le_of_ble_eq_true rfl), (Nat.le_of_ble_eq_true rfl)⟩ rfl rfl (Nat.le_of_ble_eq_true rfl) rfl rfl rfl rfl rfl (Nat.le_of_ble_eq_true rfl) rfl (fun r h' hq hl => ?_)
  obtain ⟨m', PL', LB', FR', TO', AT', rfl, hq⟩ := hq
  refine zi_h (h' := diaH ci n L S m' PL' LB' FR' TO' AT' F OF RD ST pc co OC CE SL) rfl ?_
  rcases hq with ⟨rfl, k1⟩ | ⟨rfl, k1, k2⟩ | ⟨rfl, k1, k2, rfl, el, fr, to_, at_, hE, hA⟩
  · refine zi_st (st' := [.int (nI 1)]) rfl ?_
    refine zi_istore_n (ls' := _ :: some _ :: _) O d_Dia_chart_11 rfl (by decide) rfl ?_
    refine zi_iload_n O d_Dia_chart_12 rfl ?_
    refine zi_if_eq O 18 d_Dia_chart_13 (by decide) (fun c13 => ?_) (fun c13 => ?_)
    · exact absurd c13 (by decide)
    · refine zi_iload_n O d_Dia_chart_16 rfl ?_
      refine zi_iret O d_Dia_chart_17 (Nat.le_of_ble_eq_true rfl) (Nat.le_of_ble_eq_true rfl) (Nat.le_of_ble_eq_true rfl) ?_
      exact Or.inl ⟨rfl, k1, L, m', PL', LB', FR', TO', AT', F, OF, RD, ST, pc, co, OC, CE, SL, rfl, hR, hG, hz⟩
  · refine zi_st (st' := [.int (nI 2)]) rfl ?_
    refine zi_istore_n (ls' := _ :: some _ :: _) O d_Dia_chart_11 rfl (by decide) rfl ?_
    refine zi_iload_n O d_Dia_chart_12 rfl ?_
    refine zi_if_eq O 18 d_Dia_chart_13 (by decide) (fun c13 => ?_) (fun c13 => ?_)
    · exact absurd c13 (by decide)
    · refine zi_iload_n O d_Dia_chart_16 rfl ?_
      refine zi_iret O d_Dia_chart_17 (Nat.le_of_ble_eq_true rfl) (Nat.le_of_ble_eq_true rfl) (Nat.le_of_ble_eq_true rfl) ?_
      exact Or.inr (Or.inl ⟨rfl, k1, k2, L, m', PL', LB', FR', TO', AT', F, OF, RD, ST, pc, co, OC, CE, SL, rfl, hR, hG, hz⟩)
  · refine zi_st (st' := [.int (nI 0)]) rfl ?_
    refine zi_istore_n (ls' := _ :: some _ :: _) O d_Dia_chart_11 rfl (by decide) rfl ?_
    refine zi_iload_n O d_Dia_chart_12 rfl ?_
    refine zi_if_eq O 18 d_Dia_chart_13 (by decide) (fun c13 => ?_) (fun c13 => ?_)
    · refine zi_aload_n O d_Dia_chart_18 rfl ?_
      refine zi_get O f_Dia_28 d_Dia_chart_19 rfl rfl ?_
      refine zi_aload_n O d_Dia_chart_22 rfl ?_
      refine zi_get O f_Dia_21 d_Dia_chart_23 rfl rfl ?_
      refine zi_callV O [10, 11, 12, 13, 4, 5, 6, 7, 8, 9] c_Dia_47 k_Fac_find (m_Fac_find hn hE hA PL' F OF RD ST hz) d_Dia_chart_26 ⟨(Nat.le_of_ble_eq_true rfl), (Nat.le_of_ble_eq_true rfl)⟩ ⟨(Nat.le_of_ble_eq_true rfl), (Nat.le_of_ble_eq_true rfl)⟩ rfl rfl (Nat.le_of_ble_eq_true rfl) rfl rfl rfl rfl rfl (Nat.le_of_ble_eq_true rfl) rfl (fun r h' hq hl => ?_)
      obtain ⟨rfl, RD', ST', rfl, hRd, hz'⟩ := hq
      refine zi_st (st' := []) rfl (zi_h (h' := diaH ci n L S (2 * n) PL' LB' FR' TO' AT' (FF (nxD fr to_ at_) (4 * n) (4 * n)).2 (FF (nxD fr to_ at_) (4 * n) (4 * n)).1 RD' ST' pc co OC CE SL) rfl ?_)
      refine zi_aload_n O d_Dia_chart_29 rfl ?_
      refine zi_get O f_Dia_35 d_Dia_chart_30 rfl rfl ?_
      refine zi_aload_n O d_Dia_chart_33 rfl ?_
      refine zi_get O f_Dia_12 d_Dia_chart_34 rfl rfl ?_
      refine zi_get O f_Dia_50 d_Dia_chart_37 rfl rfl ?_
      refine zi_aload_n O d_Dia_chart_40 rfl ?_
      refine zi_get O f_Dia_21 d_Dia_chart_41 rfl rfl ?_
      refine zi_callV O [14, 15, 16, 4, 5, 6, 7, 8, 9] c_Dia_54 k_Pie_find (m_Pie_find hn hE hA PL' pc co OC CE) d_Dia_chart_44 ⟨(Nat.le_of_ble_eq_true rfl), (Nat.le_of_ble_eq_true rfl)⟩ ⟨(Nat.le_of_ble_eq_true rfl), (Nat.le_of_ble_eq_true rfl)⟩ rfl rfl (Nat.le_of_ble_eq_true rfl) rfl rfl rfl rfl rfl (Nat.le_of_ble_eq_true rfl) rfl (fun r h' hq hl => ?_)
      obtain ⟨rfl, OC', oc, rfl, hO, hP⟩ := hq
      refine zi_st (st' := []) rfl (zi_h (h' := diaH ci n L S (2 * n) PL' LB' FR' TO' AT' (FF (nxD fr to_ at_) (4 * n) (4 * n)).2 (FF (nxD fr to_ at_) (4 * n) (4 * n)).1 RD' ST' (rc oc n) (FF (nxE to_ at_) (2 * n) (2 * n)).2 OC' (FF (nxE to_ at_) (2 * n) (2 * n)).1 SL) rfl ?_)
      have hF := ff_le (by omega) (perm_D hE) (Nat.le_refl (4 * n))
      have hrc : rc oc n ≤ n := by
        have : ∀ k, rc oc k ≤ k := by
          intro k
          induction k with
          | zero => exact Nat.le_refl _
          | succ k ih => rw [rc]; split <;> omega
        exact this n
      refine zi_aload_n O d_Dia_chart_47 rfl ?_
      refine zi_get O f_Dia_28 d_Dia_chart_48 rfl rfl ?_
      refine zi_get O f_Dia_57 d_Dia_chart_51 rfl rfl ?_
      refine zi_aload_n O d_Dia_chart_54 rfl ?_
      refine zi_get O f_Dia_12 d_Dia_chart_55 rfl rfl ?_
      refine zi_get O f_Dia_50 d_Dia_chart_58 rfl rfl ?_
      refine zi_iconstN O 2 d_Dia_chart_61 (by decide) ?_
      refine zi_aload_n O d_Dia_chart_62 rfl ?_
      refine zi_get O f_Dia_35 d_Dia_chart_63 rfl rfl ?_
      refine zi_get O f_Dia_58 d_Dia_chart_66 rfl rfl ?_
      first | refine zi_imulN O d_Dia_chart_69 ?_ | refine zi_imul O d_Dia_chart_69 ?_
      first | refine zi_iaddN O d_Dia_chart_70 ?_ | refine zi_iadd O d_Dia_chart_70 ?_
      refine zi_icmp_neN O 78 d_Dia_chart_71 (by decide) (by omega) (by omega) (fun c71 => ?_) (fun c71 => ?_)
      · refine zi_iconstN O 3 d_Dia_chart_78 (by decide) ?_
        refine zi_iret O d_Dia_chart_79 (Nat.le_of_ble_eq_true rfl) (Nat.le_of_ble_eq_true rfl) (Nat.le_of_ble_eq_true rfl) ?_
        refine Or.inr (Or.inr ⟨k1, k2, el, fr, to_, at_, oc, ⟨L, PL', LB', FR', TO', AT', _, RD', ST', OC', _, SL, rfl, hR, hG, hz', hE, hA, hRd, hO, hP, fun _ _ => rfl⟩, ?_⟩)
        rw [if_neg c71]
      · refine zi_iconstN O 0 d_Dia_chart_74 (by decide) ?_
        refine zi_goto O 79 d_Dia_chart_75 (by decide) ?_
        refine zi_iret O d_Dia_chart_79 (Nat.le_of_ble_eq_true rfl) (Nat.le_of_ble_eq_true rfl) (Nat.le_of_ble_eq_true rfl) ?_
        refine Or.inr (Or.inr ⟨k1, k2, el, fr, to_, at_, oc, ⟨L, PL', LB', FR', TO', AT', _, RD', ST', OC', _, SL, rfl, hR, hG, hz', hE, hA, hRd, hO, hP, fun _ _ => rfl⟩, ?_⟩)
        rw [if_pos c71]
    · exact absurd rfl c13
