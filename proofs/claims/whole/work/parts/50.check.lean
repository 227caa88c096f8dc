/-! DiagramMoves.check -/
/-- what check answers, by the row put in -/
def Flt (k : Nat) (plab : Nat → Nat) (T : Nat → Int32) (f : Nat) : Prop := (f = 1 ∧ ¬ C1 k plab) ∨ (f = 2 ∧ C1 k plab ∧ ¬ C2 k plab T) ∨ (f = 3 ∧ C1 k plab ∧ C2 k plab T ∧ ∃ el fr to_ at_ oc : Nat → Nat, Ed k plab T el fr to_ at_ ∧ PcE (2 * k) k fr to_ oc ∧ ¬ (FF (nxD fr to_ at_) (4 * k) (4 * k)).2 = k + 2 * rc oc k) ∨ (f = 0 ∧ C1 k plab ∧ C2 k plab T ∧ ∃ el fr to_ at_ oc : Nat → Nat, Ed k plab T el fr to_ at_ ∧ PcE (2 * k) k fr to_ oc ∧ (FF (nxD fr to_ at_) (4 * k) (4 * k)).2 = k + 2 * rc oc k)
section
variable {n k : Nat} {L PL LB FR TO AT OF RD ST OC CE SL L' PL' LB' FR' TO' AT' OF' RD' ST' OC' CE' SL' : Nat → Int32} {m F pc co m' F' pc' co' : Nat} {lab plab : Nat → Nat} {S T : Nat → Int32} {ci cj : Int32} {h : List zE}
theorem dr_zero {L : Nat → Int32} (h : Dr n lab S ci (diaH ci n L S m PL LB FR TO AT F OF RD ST pc co OC CE SL)) : Dr 0 lab S ci (diaH ci 0 L S m PL LB FR TO AT F OF RD ST pc co OC CE SL) := by
  obtain ⟨L2, m2, P2, B2, F2, T2, A2, f2, O2, R2, S2, p2, c2, C2, E2, Z2, e2, hR2, hG2, hz2⟩ := h
  simp only [diaH, List.cons.injEq, Sum.inl.injEq, Prod.mk.injEq] at e2
  obtain ⟨-, -, -, -, -, -, -, -, -, -, -, -, -, ⟨-, -, e3⟩, -⟩ := e2
  exact ⟨L, m, PL, LB, FR, TO, AT, F, OF, RD, ST, pc, co, OC, CE, SL, rfl, ⟨Nat.zero_le _, fun q hq => absurd hq (by omega)⟩, fun c hc => absurd hc (Nat.not_lt_zero c), by rw [e3]; exact hz2⟩
theorem dia_circ {el fr to_ at_ oc : Nat → Nat} {h : List zE} (hD : Dia n lab S ci el fr to_ at_ oc h) (x : Int32) (hh : h = diaH ci n L S m PL LB FR TO AT F OF RD ST pc co OC CE SL) : Dia n lab S x el fr to_ at_ oc (diaH x n L S m PL LB FR TO AT F OF RD ST pc co OC CE SL) := by
  obtain ⟨L2, P2, B2, F2, T2, A2, O2, R2, S2, C2, E2, Z2, e2, q⟩ := hD
  rw [hh] at e2
  simp only [diaH, List.cons.injEq, Sum.inl.injEq, Sum.inr.injEq, Prod.mk.injEq, Value.int.injEq, and_true, true_and] at e2
  refine ⟨L2, P2, B2, F2, T2, A2, O2, R2, S2, C2, E2, Z2, ?_, q⟩
  simp only [diaH, List.cons.injEq, Sum.inl.injEq, Sum.inr.injEq, Prod.mk.injEq, Value.int.injEq, and_true, true_and]
  exact e2
set_option maxHeartbeats 2000000 in
theorem m_Mov_check_1 (x : Int32) (hP0 : Dr n lab S ci (diaH ci n L S m PL LB FR TO AT F OF RD ST pc co OC CE SL)) (hR0 : Dr k plab T cj (diaH cj k L' T m' PL' LB' FR' TO' AT' F' OF' RD' ST' pc' co' OC' CE' SL')) (hx1 : ¬ x < 0) (hx2 : x ≤ nI 20) : zMet y_Mov_check b_Mov_check 4 (some .int) ⟨5, 0, 0, 140⟩ [.ref 0, .int x] (movH 1 19 (diaH ci n L S m PL LB FR TO AT F OF RD ST pc co OC CE SL) (diaH cj k L' T m' PL' LB' FR' TO' AT' F' OF' RD' ST' pc' co' OC' CE' SL'))
    (fun r h' => ∃ f, r = some (.int (nI f)) ∧ Flt k plab T f ∧ (f ≠ 0 → ∃ hB, Dr 0 plab T cj hB ∧ h' = movH 1 19 (diaH ci n L S m PL LB FR TO AT F OF RD ST pc co OC CE SL) hB) ∧ (f = 0 → ∃ (el fr to_ at_ oc : Nat → Nat) (hB : List zE), Dia k plab T x el fr to_ at_ oc hB ∧ h' = movH 19 1 (diaH ci 0 L S m PL LB FR TO AT F OF RD ST pc co OC CE SL) hB)) := by
  refine zMet_of (plainFor_of_name (by decide +kernel)) rfl (Nat.le_of_ble_eq_true rfl) (fun z1 z2 z3 z4 z5 z6 z7 z8 z9 z10 z11 z12 z13 z14 O hin => ?_)
  refine zi_ls (ls' := [some (.ref 0), some (.int x), none, none]) rfl ?_
  refine zi_iload_n O d_Mov_check_0 rfl ?_
  refine zi_if_lt O 10 d_Mov_check_1 (by decide) (fun c1 => ?_) (fun c1 => ?_)
  · exact absurd c1 hx1
  · refine zi_iload_n O d_Mov_check_4 rfl ?_
    refine zi_bipushN O 20 d_Mov_check_5 (by decide) ?_
    refine zi_icmp_le O 12 d_Mov_check_7 (by decide) (fun c7 => ?_) (fun c7 => ?_)
    · refine zi_aload_n O d_Mov_check_12 rfl ?_
      refine zi_get O f_Mov_16 d_Mov_check_13 rfl rfl ?_
      refine zi_blkV O 19 (zo 0 [.ref 1, .ref 19] :: (diaH ci n L S m PL LB FR TO AT F OF RD ST pc co OC CE SL).map (zc (fun q => q + 1))) (diaH cj k L' T m' PL' LB' FR' TO' AT' F' OF' RD' ST' pc' co' OC' CE' SL') ([]) rfl rfl c_Mov_44 k_Dia_chart (m_Dia_chart hR0) d_Mov_check_16 ⟨(Nat.le_of_ble_eq_true rfl), (Nat.le_of_ble_eq_true rfl)⟩ ⟨(Nat.le_of_ble_eq_true rfl), (Nat.le_of_ble_eq_true rfl)⟩ rfl rfl (Nat.le_of_ble_eq_true rfl) rfl rfl rfl (Nat.le_of_ble_eq_true rfl) rfl rfl (fun r h' hq => ?_) rfl (fun r h' hq => ?_)
      · have hd : Dr k plab T cj h' := by
          rcases hq with ⟨-, -, z⟩ | ⟨-, -, -, z⟩ | ⟨-, -, _, _, _, _, _, z, -⟩
          · exact z
          · exact z
          · exact dia_dr z
        obtain ⟨L2, m2, P2, B2, F2, T2, A2, f2, O2, R2, S2, p2, c2, C2, E2, Z2, rfl⟩ := dr_form hd
        exact ⟨rfl, rfl⟩
      · have nz : ∀ (f : Nat) (L2 : Nat → Int32) (m2 : Nat) (P2 B2 F2 T2 A2 : Nat → Int32) (f2 : Nat) (O2 R2 S2 : Nat → Int32) (p2 c2 : Nat) (C2 E2 Z2 : Nat → Int32), 0 < f → f < 4 → Flt k plab T f → Dr k plab T cj (diaH cj k L2 T m2 P2 B2 F2 T2 A2 f2 O2 R2 S2 p2 c2 C2 E2 Z2) → zG z1 z2 z3 z4 z5 z6 z7 z8 z9 z10 z11 z12 z13 z14 37 4 (fun r h' => ∃ f, r = some (.int (nI f)) ∧ Flt k plab T f ∧ (f ≠ 0 → ∃ hB, Dr 0 plab T cj hB ∧ h' = movH 1 19 (diaH ci n L S m PL LB FR TO AT F OF RD ST pc co OC CE SL) hB) ∧ (f = 0 → ∃ (el fr to_ at_ oc : Nat → Nat) (hB : List zE), Dia k plab T x el fr to_ at_ oc hB ∧ h' = movH 19 1 (diaH ci 0 L S m PL LB FR TO AT F OF RD ST pc co OC CE SL) hB)) 0 0 0 0 19 [some (.ref 0), some (.int x), none, none] [.int (nI f)] (movH 1 19 (diaH ci n L S m PL LB FR TO AT F OF RD ST pc co OC CE SL) (diaH cj k L2 T m2 P2 B2 F2 T2 A2 f2 O2 R2 S2 p2 c2 C2 E2 Z2)) := by
          intro f L2 m2 P2 B2 F2 T2 A2 f2 O2 R2 S2 p2 c2 C2 E2 Z2 hf hf4 hF hd
          refine zi_istore_n (ls' := _ :: _ :: some _ :: _) O d_Mov_check_19 rfl (by decide) rfl ?_
          refine zi_iload_n O d_Mov_check_20 rfl ?_
          refine zi_if_ne O 50 d_Mov_check_21 (by decide) (fun c21 => ?_) (fun c21 => ?_)
          · refine zi_aload_n O d_Mov_check_50 rfl ?_
            refine zi_get O f_Mov_16 d_Mov_check_51 rfl rfl ?_
            refine zi_get O f_Mov_26 d_Mov_check_54 rfl rfl ?_
            refine zi_iconstN O 0 d_Mov_check_57 (by decide) ?_
            refine zi_put (h' := movH 1 19 (diaH ci n L S m PL LB FR TO AT F OF RD ST pc co OC CE SL) (diaH cj 0 L2 T m2 P2 B2 F2 T2 A2 f2 O2 R2 S2 p2 c2 C2 E2 Z2)) O f_Mov_40 d_Mov_check_58 rfl (Nat.le_of_ble_eq_true rfl) (fun _ => rfl) (fun _ => rfl) rfl ?_
            refine zi_iload_n O d_Mov_check_61 rfl ?_
            refine zi_iret O d_Mov_check_62 (Nat.le_of_ble_eq_true rfl) (Nat.le_of_ble_eq_true rfl) (Nat.le_of_ble_eq_true rfl) ?_
            exact ⟨f, rfl, hF, fun _ => ⟨_, dr_zero hd, rfl⟩, fun z => absurd z (by omega)⟩
          · exact absurd c21 (nI_ne0 hf (by omega))
        rcases hq with ⟨rfl, k1, hd⟩ | ⟨rfl, k1, k2, hd⟩ | ⟨k1, k2, el, fr, to_, at_, oc, hd, rfl⟩
        · have hd' := hd
          obtain ⟨L2, m2, P2, B2, F2, T2, A2, f2, O2, R2, S2, p2, c2, C2, E2, Z2, rfl⟩ := dr_form hd
          refine zi_st (st' := [.int (nI 1)]) rfl (zi_h (h' := movH 1 19 (diaH ci n L S m PL LB FR TO AT F OF RD ST pc co OC CE SL) (diaH cj k L2 T m2 P2 B2 F2 T2 A2 f2 O2 R2 S2 p2 c2 C2 E2 Z2)) rfl ?_)
          exact nz 1 L2 m2 P2 B2 F2 T2 A2 f2 O2 R2 S2 p2 c2 C2 E2 Z2 (by omega) (by omega) (Or.inl ⟨rfl, k1⟩) hd'
        · have hd' := hd
          obtain ⟨L2, m2, P2, B2, F2, T2, A2, f2, O2, R2, S2, p2, c2, C2, E2, Z2, rfl⟩ := dr_form hd
          refine zi_st (st' := [.int (nI 2)]) rfl (zi_h (h' := movH 1 19 (diaH ci n L S m PL LB FR TO AT F OF RD ST pc co OC CE SL) (diaH cj k L2 T m2 P2 B2 F2 T2 A2 f2 O2 R2 S2 p2 c2 C2 E2 Z2)) rfl ?_)
          exact nz 2 L2 m2 P2 B2 F2 T2 A2 f2 O2 R2 S2 p2 c2 C2 E2 Z2 (by omega) (by omega) (Or.inr (Or.inl ⟨rfl, k1, k2⟩)) hd'
        · have hd1 := dia_dr hd
          have hd2 := hd
          have hE : Ed k plab T el fr to_ at_ ∧ PcE (2 * k) k fr to_ oc := by
            obtain ⟨_, _, _, _, _, _, _, _, _, _, _, _, _, -, -, -, hE, -, -, -, hP, -⟩ := hd
            exact ⟨hE, hP⟩
          obtain ⟨L2, m2, P2, B2, F2, T2, A2, f2, O2, R2, S2, p2, c2, C2, E2, Z2, hform⟩ := dr_form hd1
          by_cases cF : (FF (nxD fr to_ at_) (4 * k) (4 * k)).2 = k + 2 * rc oc k
          · rw [if_pos cF]
            have hd3 := dia_circ hd2 x hform
            subst hform
            refine zi_st (st' := [.int (nI 0)]) rfl (zi_h (h' := movH 1 19 (diaH ci n L S m PL LB FR TO AT F OF RD ST pc co OC CE SL) (diaH cj k L2 T m2 P2 B2 F2 T2 A2 f2 O2 R2 S2 p2 c2 C2 E2 Z2)) rfl ?_)
            refine zi_istore_n (ls' := _ :: _ :: some _ :: _) O d_Mov_check_19 rfl (by decide) rfl ?_
            refine zi_iload_n O d_Mov_check_20 rfl ?_
            refine zi_if_ne O 50 d_Mov_check_21 (by decide) (fun c21 => ?_) (fun c21 => ?_)
            · exact absurd rfl c21
            · refine zi_aload_n O d_Mov_check_24 rfl ?_
              refine zi_get O f_Mov_12 d_Mov_check_25 rfl rfl ?_
              refine zi_astore_n (ls' := _ :: _ :: _ :: some _ :: _) O d_Mov_check_28 rfl (by decide) rfl ?_
              refine zi_aload_n O d_Mov_check_29 rfl ?_
              refine zi_aload_n O d_Mov_check_30 rfl ?_
              refine zi_get O f_Mov_16 d_Mov_check_31 rfl rfl ?_
              refine zi_put (h' := movH 19 19 (diaH ci n L S m PL LB FR TO AT F OF RD ST pc co OC CE SL) (diaH cj k L2 T m2 P2 B2 F2 T2 A2 f2 O2 R2 S2 p2 c2 C2 E2 Z2)) O f_Mov_12 d_Mov_check_34 rfl (Nat.le_of_ble_eq_true rfl) (fun _ => rfl) (fun _ => rfl) rfl ?_
              refine zi_aload_n O d_Mov_check_37 rfl ?_
              refine zi_get O f_Mov_12 d_Mov_check_38 rfl rfl ?_
              refine zi_iload_n O d_Mov_check_41 rfl ?_
              refine zi_put (h' := movH 19 19 (diaH ci n L S m PL LB FR TO AT F OF RD ST pc co OC CE SL) (diaH x k L2 T m2 P2 B2 F2 T2 A2 f2 O2 R2 S2 p2 c2 C2 E2 Z2)) O f_Mov_48 d_Mov_check_42 rfl (Nat.le_of_ble_eq_true rfl) (fun _ => rfl) (fun _ => rfl) rfl ?_
              refine zi_aload_n O d_Mov_check_45 rfl ?_
              refine zi_aload_n O d_Mov_check_46 rfl ?_
              refine zi_put (h' := movH 19 1 (diaH ci n L S m PL LB FR TO AT F OF RD ST pc co OC CE SL) (diaH x k L2 T m2 P2 B2 F2 T2 A2 f2 O2 R2 S2 p2 c2 C2 E2 Z2)) O f_Mov_16 d_Mov_check_47 rfl (Nat.le_of_ble_eq_true rfl) (fun _ => rfl) (fun _ => rfl) rfl ?_
              refine zi_aload_n O d_Mov_check_50 rfl ?_
              refine zi_get O f_Mov_16 d_Mov_check_51 rfl rfl ?_
              refine zi_get O f_Mov_26 d_Mov_check_54 rfl rfl ?_
              refine zi_iconstN O 0 d_Mov_check_57 (by decide) ?_
              refine zi_put (h' := movH 19 1 (diaH ci 0 L S m PL LB FR TO AT F OF RD ST pc co OC CE SL) (diaH x k L2 T m2 P2 B2 F2 T2 A2 f2 O2 R2 S2 p2 c2 C2 E2 Z2)) O f_Mov_40 d_Mov_check_58 rfl (Nat.le_of_ble_eq_true rfl) (fun _ => rfl) (fun _ => rfl) rfl ?_
              refine zi_iload_n O d_Mov_check_61 rfl ?_
              refine zi_iret O d_Mov_check_62 (Nat.le_of_ble_eq_true rfl) (Nat.le_of_ble_eq_true rfl) (Nat.le_of_ble_eq_true rfl) ?_
              exact ⟨0, rfl, Or.inr (Or.inr (Or.inr ⟨rfl, k1, k2, el, fr, to_, at_, oc, hE.1, hE.2, cF⟩)), fun z => absurd rfl z, fun _ => ⟨el, fr, to_, at_, oc, _, hd3, rfl⟩⟩
          · rw [if_neg cF]
            subst hform
            refine zi_st (st' := [.int (nI 3)]) rfl (zi_h (h' := movH 1 19 (diaH ci n L S m PL LB FR TO AT F OF RD ST pc co OC CE SL) (diaH cj k L2 T m2 P2 B2 F2 T2 A2 f2 O2 R2 S2 p2 c2 C2 E2 Z2)) rfl ?_)
            exact nz 3 L2 m2 P2 B2 F2 T2 A2 f2 O2 R2 S2 p2 c2 C2 E2 Z2 (by omega) (by omega) (Or.inr (Or.inr (Or.inl ⟨rfl, k1, k2, el, fr, to_, at_, oc, hE.1, hE.2, cF⟩))) hd1
    · exact absurd hx2 c7
theorem m_Mov_check_no_1 (x : Int32) (hx : x < 0 ∨ nI 20 < x) : zPu y_Mov_check b_Mov_check 4 (some .int) ⟨5, 0, 0, 140⟩ [.ref 0, .int x] (movH 1 19 (diaH ci n L S m PL LB FR TO AT F OF RD ST pc co OC CE SL) (diaH cj k L' T m' PL' LB' FR' TO' AT' F' OF' RD' ST' pc' co' OC' CE' SL')) (.int (-1)) := by
  refine zMet_of (plainFor_of_name (by decide +kernel)) rfl (Nat.le_of_ble_eq_true rfl) (fun z1 z2 z3 z4 z5 z6 z7 z8 z9 z10 z11 z12 z13 z14 O hin => ?_)
  refine zi_ls (ls' := [some (.ref 0), some (.int x), none, none]) rfl ?_
  refine zi_iload_n O d_Mov_check_0 rfl ?_
  refine zi_if_lt O 10 d_Mov_check_1 (by decide) (fun c1 => ?_) (fun c1 => ?_)
  · refine zi_iconst (v := -1) O d_Mov_check_10 (by decide) ?_
    refine zi_iret O d_Mov_check_11 (Nat.le_of_ble_eq_true rfl) (Nat.le_of_ble_eq_true rfl) (Nat.le_of_ble_eq_true rfl) ?_
    exact ⟨rfl, rfl⟩
  · refine zi_iload_n O d_Mov_check_4 rfl ?_
    refine zi_bipushN O 20 d_Mov_check_5 (by decide) ?_
    refine zi_icmp_le O 12 d_Mov_check_7 (by decide) (fun c7 => ?_) (fun c7 => ?_)
    · exact absurd hx (fun z => z.elim c1 (Int32.not_lt.mpr c7))
    · refine zi_iconst (v := -1) O d_Mov_check_10 (by decide) ?_
      refine zi_iret O d_Mov_check_11 (Nat.le_of_ble_eq_true rfl) (Nat.le_of_ble_eq_true rfl) (Nat.le_of_ble_eq_true rfl) ?_
      exact ⟨rfl, rfl⟩
set_option maxHeartbeats 2000000 in
theorem m_Mov_check_2 (x : Int32) (hP0 : Dr n lab S ci (diaH ci n L S m PL LB FR TO AT F OF RD ST pc co OC CE SL)) (hR0 : Dr k plab T cj (diaH cj k L' T m' PL' LB' FR' TO' AT' F' OF' RD' ST' pc' co' OC' CE' SL')) (hx1 : ¬ x < 0) (hx2 : x ≤ nI 20) : zMet y_Mov_check b_Mov_check 4 (some .int) ⟨5, 0, 0, 140⟩ [.ref 0, .int x] (movH 19 1 (diaH cj k L' T m' PL' LB' FR' TO' AT' F' OF' RD' ST' pc' co' OC' CE' SL') (diaH ci n L S m PL LB FR TO AT F OF RD ST pc co OC CE SL))
    (fun r h' => ∃ f, r = some (.int (nI f)) ∧ Flt k plab T f ∧ (f ≠ 0 → ∃ hB, Dr 0 plab T cj hB ∧ h' = movH 19 1 hB (diaH ci n L S m PL LB FR TO AT F OF RD ST pc co OC CE SL)) ∧ (f = 0 → ∃ (el fr to_ at_ oc : Nat → Nat) (hB : List zE), Dia k plab T x el fr to_ at_ oc hB ∧ h' = movH 1 19 hB (diaH ci 0 L S m PL LB FR TO AT F OF RD ST pc co OC CE SL))) := by
  refine zMet_of (plainFor_of_name (by decide +kernel)) rfl (Nat.le_of_ble_eq_true rfl) (fun z1 z2 z3 z4 z5 z6 z7 z8 z9 z10 z11 z12 z13 z14 O hin => ?_)
  refine zi_ls (ls' := [some (.ref 0), some (.int x), none, none]) rfl ?_
  refine zi_iload_n O d_Mov_check_0 rfl ?_
  refine zi_if_lt O 10 d_Mov_check_1 (by decide) (fun c1 => ?_) (fun c1 => ?_)
  · exact absurd c1 hx1
  · refine zi_iload_n O d_Mov_check_4 rfl ?_
    refine zi_bipushN O 20 d_Mov_check_5 (by decide) ?_
    refine zi_icmp_le O 12 d_Mov_check_7 (by decide) (fun c7 => ?_) (fun c7 => ?_)
    · refine zi_aload_n O d_Mov_check_12 rfl ?_
      refine zi_get O f_Mov_16 d_Mov_check_13 rfl rfl ?_
      refine zi_blkV O 1 ([zo 0 [.ref 19, .ref 1]]) (diaH cj k L' T m' PL' LB' FR' TO' AT' F' OF' RD' ST' pc' co' OC' CE' SL') ((diaH ci n L S m PL LB FR TO AT F OF RD ST pc co OC CE SL).map (zc (fun q => q + 19))) rfl rfl c_Mov_44 k_Dia_chart (m_Dia_chart hR0) d_Mov_check_16 ⟨(Nat.le_of_ble_eq_true rfl), (Nat.le_of_ble_eq_true rfl)⟩ ⟨(Nat.le_of_ble_eq_true rfl), (Nat.le_of_ble_eq_true rfl)⟩ rfl rfl (Nat.le_of_ble_eq_true rfl) rfl rfl rfl (Nat.le_of_ble_eq_true rfl) rfl rfl (fun r h' hq => ?_) rfl (fun r h' hq => ?_)
      · have hd : Dr k plab T cj h' := by
          rcases hq with ⟨-, -, z⟩ | ⟨-, -, -, z⟩ | ⟨-, -, _, _, _, _, _, z, -⟩
          · exact z
          · exact z
          · exact dia_dr z
        obtain ⟨L2, m2, P2, B2, F2, T2, A2, f2, O2, R2, S2, p2, c2, C2, E2, Z2, rfl⟩ := dr_form hd
        exact ⟨rfl, rfl⟩
      · have nz : ∀ (f : Nat) (L2 : Nat → Int32) (m2 : Nat) (P2 B2 F2 T2 A2 : Nat → Int32) (f2 : Nat) (O2 R2 S2 : Nat → Int32) (p2 c2 : Nat) (C2 E2 Z2 : Nat → Int32), 0 < f → f < 4 → Flt k plab T f → Dr k plab T cj (diaH cj k L2 T m2 P2 B2 F2 T2 A2 f2 O2 R2 S2 p2 c2 C2 E2 Z2) → zG z1 z2 z3 z4 z5 z6 z7 z8 z9 z10 z11 z12 z13 z14 37 4 (fun r h' => ∃ f, r = some (.int (nI f)) ∧ Flt k plab T f ∧ (f ≠ 0 → ∃ hB, Dr 0 plab T cj hB ∧ h' = movH 19 1 hB (diaH ci n L S m PL LB FR TO AT F OF RD ST pc co OC CE SL)) ∧ (f = 0 → ∃ (el fr to_ at_ oc : Nat → Nat) (hB : List zE), Dia k plab T x el fr to_ at_ oc hB ∧ h' = movH 1 19 hB (diaH ci 0 L S m PL LB FR TO AT F OF RD ST pc co OC CE SL))) 0 0 0 0 19 [some (.ref 0), some (.int x), none, none] [.int (nI f)] (movH 19 1 (diaH cj k L2 T m2 P2 B2 F2 T2 A2 f2 O2 R2 S2 p2 c2 C2 E2 Z2) (diaH ci n L S m PL LB FR TO AT F OF RD ST pc co OC CE SL)) := by
          intro f L2 m2 P2 B2 F2 T2 A2 f2 O2 R2 S2 p2 c2 C2 E2 Z2 hf hf4 hF hd
          refine zi_istore_n (ls' := _ :: _ :: some _ :: _) O d_Mov_check_19 rfl (by decide) rfl ?_
          refine zi_iload_n O d_Mov_check_20 rfl ?_
          refine zi_if_ne O 50 d_Mov_check_21 (by decide) (fun c21 => ?_) (fun c21 => ?_)
          · refine zi_aload_n O d_Mov_check_50 rfl ?_
            refine zi_get O f_Mov_16 d_Mov_check_51 rfl rfl ?_
            refine zi_get O f_Mov_26 d_Mov_check_54 rfl rfl ?_
            refine zi_iconstN O 0 d_Mov_check_57 (by decide) ?_
            refine zi_put (h' := movH 19 1 (diaH cj 0 L2 T m2 P2 B2 F2 T2 A2 f2 O2 R2 S2 p2 c2 C2 E2 Z2) (diaH ci n L S m PL LB FR TO AT F OF RD ST pc co OC CE SL)) O f_Mov_40 d_Mov_check_58 rfl (Nat.le_of_ble_eq_true rfl) (fun _ => rfl) (fun _ => rfl) rfl ?_
            refine zi_iload_n O d_Mov_check_61 rfl ?_
            refine zi_iret O d_Mov_check_62 (Nat.le_of_ble_eq_true rfl) (Nat.le_of_ble_eq_true rfl) (Nat.le_of_ble_eq_true rfl) ?_
            exact ⟨f, rfl, hF, fun _ => ⟨_, dr_zero hd, rfl⟩, fun z => absurd z (by omega)⟩
          · exact absurd c21 (nI_ne0 hf (by omega))
        rcases hq with ⟨rfl, k1, hd⟩ | ⟨rfl, k1, k2, hd⟩ | ⟨k1, k2, el, fr, to_, at_, oc, hd, rfl⟩
        · have hd' := hd
          obtain ⟨L2, m2, P2, B2, F2, T2, A2, f2, O2, R2, S2, p2, c2, C2, E2, Z2, rfl⟩ := dr_form hd
          refine zi_st (st' := [.int (nI 1)]) rfl (zi_h (h' := movH 19 1 (diaH cj k L2 T m2 P2 B2 F2 T2 A2 f2 O2 R2 S2 p2 c2 C2 E2 Z2) (diaH ci n L S m PL LB FR TO AT F OF RD ST pc co OC CE SL)) rfl ?_)
          exact nz 1 L2 m2 P2 B2 F2 T2 A2 f2 O2 R2 S2 p2 c2 C2 E2 Z2 (by omega) (by omega) (Or.inl ⟨rfl, k1⟩) hd'
        · have hd' := hd
          obtain ⟨L2, m2, P2, B2, F2, T2, A2, f2, O2, R2, S2, p2, c2, C2, E2, Z2, rfl⟩ := dr_form hd
          refine zi_st (st' := [.int (nI 2)]) rfl (zi_h (h' := movH 19 1 (diaH cj k L2 T m2 P2 B2 F2 T2 A2 f2 O2 R2 S2 p2 c2 C2 E2 Z2) (diaH ci n L S m PL LB FR TO AT F OF RD ST pc co OC CE SL)) rfl ?_)
          exact nz 2 L2 m2 P2 B2 F2 T2 A2 f2 O2 R2 S2 p2 c2 C2 E2 Z2 (by omega) (by omega) (Or.inr (Or.inl ⟨rfl, k1, k2⟩)) hd'
        · have hd1 := dia_dr hd
          have hd2 := hd
          have hE : Ed k plab T el fr to_ at_ ∧ PcE (2 * k) k fr to_ oc := by
            obtain ⟨_, _, _, _, _, _, _, _, _, _, _, _, _, -, -, -, hE, -, -, -, hP, -⟩ := hd
            exact ⟨hE, hP⟩
          obtain ⟨L2, m2, P2, B2, F2, T2, A2, f2, O2, R2, S2, p2, c2, C2, E2, Z2, hform⟩ := dr_form hd1
          by_cases cF : (FF (nxD fr to_ at_) (4 * k) (4 * k)).2 = k + 2 * rc oc k
          · rw [if_pos cF]
            have hd3 := dia_circ hd2 x hform
            subst hform
            refine zi_st (st' := [.int (nI 0)]) rfl (zi_h (h' := movH 19 1 (diaH cj k L2 T m2 P2 B2 F2 T2 A2 f2 O2 R2 S2 p2 c2 C2 E2 Z2) (diaH ci n L S m PL LB FR TO AT F OF RD ST pc co OC CE SL)) rfl ?_)
            refine zi_istore_n (ls' := _ :: _ :: some _ :: _) O d_Mov_check_19 rfl (by decide) rfl ?_
            refine zi_iload_n O d_Mov_check_20 rfl ?_
            refine zi_if_ne O 50 d_Mov_check_21 (by decide) (fun c21 => ?_) (fun c21 => ?_)
            · exact absurd rfl c21
            · refine zi_aload_n O d_Mov_check_24 rfl ?_
              refine zi_get O f_Mov_12 d_Mov_check_25 rfl rfl ?_
              refine zi_astore_n (ls' := _ :: _ :: _ :: some _ :: _) O d_Mov_check_28 rfl (by decide) rfl ?_
              refine zi_aload_n O d_Mov_check_29 rfl ?_
              refine zi_aload_n O d_Mov_check_30 rfl ?_
              refine zi_get O f_Mov_16 d_Mov_check_31 rfl rfl ?_
              refine zi_put (h' := movH 1 1 (diaH cj k L2 T m2 P2 B2 F2 T2 A2 f2 O2 R2 S2 p2 c2 C2 E2 Z2) (diaH ci n L S m PL LB FR TO AT F OF RD ST pc co OC CE SL)) O f_Mov_12 d_Mov_check_34 rfl (Nat.le_of_ble_eq_true rfl) (fun _ => rfl) (fun _ => rfl) rfl ?_
              refine zi_aload_n O d_Mov_check_37 rfl ?_
              refine zi_get O f_Mov_12 d_Mov_check_38 rfl rfl ?_
              refine zi_iload_n O d_Mov_check_41 rfl ?_
              refine zi_put (h' := movH 1 1 (diaH x k L2 T m2 P2 B2 F2 T2 A2 f2 O2 R2 S2 p2 c2 C2 E2 Z2) (diaH ci n L S m PL LB FR TO AT F OF RD ST pc co OC CE SL)) O f_Mov_48 d_Mov_check_42 rfl (Nat.le_of_ble_eq_true rfl) (fun _ => rfl) (fun _ => rfl) rfl ?_
              refine zi_aload_n O d_Mov_check_45 rfl ?_
              refine zi_aload_n O d_Mov_check_46 rfl ?_
              refine zi_put (h' := movH 1 19 (diaH x k L2 T m2 P2 B2 F2 T2 A2 f2 O2 R2 S2 p2 c2 C2 E2 Z2) (diaH ci n L S m PL LB FR TO AT F OF RD ST pc co OC CE SL)) O f_Mov_16 d_Mov_check_47 rfl (Nat.le_of_ble_eq_true rfl) (fun _ => rfl) (fun _ => rfl) rfl ?_
              refine zi_aload_n O d_Mov_check_50 rfl ?_
              refine zi_get O f_Mov_16 d_Mov_check_51 rfl rfl ?_
              refine zi_get O f_Mov_26 d_Mov_check_54 rfl rfl ?_
              refine zi_iconstN O 0 d_Mov_check_57 (by decide) ?_
              refine zi_put (h' := movH 1 19 (diaH x k L2 T m2 P2 B2 F2 T2 A2 f2 O2 R2 S2 p2 c2 C2 E2 Z2) (diaH ci 0 L S m PL LB FR TO AT F OF RD ST pc co OC CE SL)) O f_Mov_40 d_Mov_check_58 rfl (Nat.le_of_ble_eq_true rfl) (fun _ => rfl) (fun _ => rfl) rfl ?_
              refine zi_iload_n O d_Mov_check_61 rfl ?_
              refine zi_iret O d_Mov_check_62 (Nat.le_of_ble_eq_true rfl) (Nat.le_of_ble_eq_true rfl) (Nat.le_of_ble_eq_true rfl) ?_
              exact ⟨0, rfl, Or.inr (Or.inr (Or.inr ⟨rfl, k1, k2, el, fr, to_, at_, oc, hE.1, hE.2, cF⟩)), fun z => absurd rfl z, fun _ => ⟨el, fr, to_, at_, oc, _, hd3, rfl⟩⟩
          · rw [if_neg cF]
            subst hform
            refine zi_st (st' := [.int (nI 3)]) rfl (zi_h (h' := movH 19 1 (diaH cj k L2 T m2 P2 B2 F2 T2 A2 f2 O2 R2 S2 p2 c2 C2 E2 Z2) (diaH ci n L S m PL LB FR TO AT F OF RD ST pc co OC CE SL)) rfl ?_)
            exact nz 3 L2 m2 P2 B2 F2 T2 A2 f2 O2 R2 S2 p2 c2 C2 E2 Z2 (by omega) (by omega) (Or.inr (Or.inr (Or.inl ⟨rfl, k1, k2, el, fr, to_, at_, oc, hE.1, hE.2, cF⟩))) hd1
    · exact absurd hx2 c7
theorem m_Mov_check_no_2 (x : Int32) (hx : x < 0 ∨ nI 20 < x) : zPu y_Mov_check b_Mov_check 4 (some .int) ⟨5, 0, 0, 140⟩ [.ref 0, .int x] (movH 19 1 (diaH cj k L' T m' PL' LB' FR' TO' AT' F' OF' RD' ST' pc' co' OC' CE' SL') (diaH ci n L S m PL LB FR TO AT F OF RD ST pc co OC CE SL)) (.int (-1)) := by
  refine zMet_of (plainFor_of_name (by decide +kernel)) rfl (Nat.le_of_ble_eq_true rfl) (fun z1 z2 z3 z4 z5 z6 z7 z8 z9 z10 z11 z12 z13 z14 O hin => ?_)
  refine zi_ls (ls' := [some (.ref 0), some (.int x), none, none]) rfl ?_
  refine zi_iload_n O d_Mov_check_0 rfl ?_
  refine zi_if_lt O 10 d_Mov_check_1 (by decide) (fun c1 => ?_) (fun c1 => ?_)
  · refine zi_iconst (v := -1) O d_Mov_check_10 (by decide) ?_
    refine zi_iret O d_Mov_check_11 (Nat.le_of_ble_eq_true rfl) (Nat.le_of_ble_eq_true rfl) (Nat.le_of_ble_eq_true rfl) ?_
    exact ⟨rfl, rfl⟩
  · refine zi_iload_n O d_Mov_check_4 rfl ?_
    refine zi_bipushN O 20 d_Mov_check_5 (by decide) ?_
    refine zi_icmp_le O 12 d_Mov_check_7 (by decide) (fun c7 => ?_) (fun c7 => ?_)
    · exact absurd hx (fun z => z.elim c1 (Int32.not_lt.mpr c7))
    · refine zi_iconst (v := -1) O d_Mov_check_10 (by decide) ?_
      refine zi_iret O d_Mov_check_11 (Nat.le_of_ble_eq_true rfl) (Nat.le_of_ble_eq_true rfl) (Nat.le_of_ble_eq_true rfl) ?_
      exact ⟨rfl, rfl⟩
/-- check -/
theorem m_Mov_check {P : List zE → Prop} (hPd : ∀ x, P x → ∃ n lab S ci, Dr n lab S ci x) (hM : Mv P (Dr k plab T cj) h) (x : Int32) : zMet y_Mov_check b_Mov_check 4 (some .int) ⟨5, 0, 0, 140⟩ [.ref 0, .int x] h
    (fun r h' => ((x < 0 ∨ nI 20 < x) ∧ r = some (.int (-1)) ∧ Mv P (Dr k plab T cj) h') ∨ (¬ (x < 0 ∨ nI 20 < x) ∧ ∃ f, r = some (.int (nI f)) ∧ Flt k plab T f ∧ (f ≠ 0 → Mv P (Dr 0 plab T cj) h') ∧ (f = 0 → ∃ (el fr to_ at_ oc : Nat → Nat) (n0 : Nat) (lab0 : Nat → Nat) (S0 : Nat → Int32) (ci0 : Int32), Mv (Dia k plab T x el fr to_ at_ oc) (Dr 0 lab0 S0 ci0) h'))) := by
  rcases hM with ⟨hA, hB, hP, hR0, rfl⟩ | ⟨hB, hA, hR0, hP, rfl⟩
  · obtain ⟨n, lab, S, ci, hP0⟩ := hPd _ hP
    have hR1 := hR0
    have hP1 := hP0
    obtain ⟨L, m, PL, LB, FR, TO, AT, F, OF, RD, ST, pc, co, OC, CE, SL, rfl⟩ := dr_form hP0
    obtain ⟨L', m', PL', LB', FR', TO', AT', F', OF', RD', ST', pc', co', OC', CE', SL', rfl⟩ := dr_form hR0
    by_cases hx : x < 0 ∨ nI 20 < x
    · refine (m_Mov_check_no_1 x hx).mono (fun r h' hq => ?_)
      obtain ⟨rfl, rfl⟩ := hq
      exact Or.inl ⟨hx, rfl, Or.inl ⟨_, _, hP, hR1, rfl⟩⟩
    · refine (m_Mov_check_1 x hP1 hR1 (fun z => hx (Or.inl z)) (Int32.not_lt.mp (fun z => hx (Or.inr z)))).mono (fun r h' hq => ?_)
      obtain ⟨f, q1, q2, q3, q4⟩ := hq
      refine Or.inr ⟨hx, f, q1, q2, fun z => ?_, fun z => ?_⟩
      · obtain ⟨hB, q5, rfl⟩ := q3 z
        exact Or.inl ⟨_, _, hP, q5, rfl⟩
      · obtain ⟨el, fr, to_, at_, oc, hB, q5, rfl⟩ := q4 z
        exact ⟨el, fr, to_, at_, oc, n, lab, S, ci, Or.inr ⟨_, _, dr_zero hP1, q5, rfl⟩⟩
  · obtain ⟨n, lab, S, ci, hP0⟩ := hPd _ hP
    have hR1 := hR0
    have hP1 := hP0
    obtain ⟨L, m, PL, LB, FR, TO, AT, F, OF, RD, ST, pc, co, OC, CE, SL, rfl⟩ := dr_form hP0
    obtain ⟨L', m', PL', LB', FR', TO', AT', F', OF', RD', ST', pc', co', OC', CE', SL', rfl⟩ := dr_form hR0
    by_cases hx : x < 0 ∨ nI 20 < x
    · refine (m_Mov_check_no_2 x hx).mono (fun r h' hq => ?_)
      obtain ⟨rfl, rfl⟩ := hq
      exact Or.inl ⟨hx, rfl, Or.inr ⟨_, _, hR1, hP, rfl⟩⟩
    · refine (m_Mov_check_2 x hP1 hR1 (fun z => hx (Or.inl z)) (Int32.not_lt.mp (fun z => hx (Or.inr z)))).mono (fun r h' hq => ?_)
      obtain ⟨f, q1, q2, q3, q4⟩ := hq
      refine Or.inr ⟨hx, f, q1, q2, fun z => ?_, fun z => ?_⟩
      · obtain ⟨hB, q5, rfl⟩ := q3 z
        exact Or.inr ⟨_, _, q5, hP, rfl⟩
      · obtain ⟨el, fr, to_, at_, oc, hB, q5, rfl⟩ := q4 z
        exact ⟨el, fr, to_, at_, oc, n, lab, S, ci, Or.inl ⟨_, _, q5, dr_zero hP1, rfl⟩⟩
end
