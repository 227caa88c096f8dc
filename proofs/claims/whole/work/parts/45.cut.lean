/-! Cut; cutEdge, addCrossing -/
abbrev cutC (a b c : Int32) : zE := zo 6 [.int a, .int b, .int c]
theorem m_Cut_init (a b c : Int32) : zMet y_Cut_init b_Cut_init 4 none ⟨1, 0, 0, 20⟩ [.ref 0, .int a, .int b, .int c] [cutC 0 0 0] (fun r h' => r = none ∧ h' = [cutC a b c]) := by
  refine zMet_of (plainFor_of_name (by decide +kernel)) rfl (Nat.le_of_ble_eq_true rfl) (fun z1 z2 z3 z4 z5 z6 z7 z8 z9 z10 z11 z12 z13 z14 O hin => ?_)
  refine zi_ls (ls' := [some (.ref 0), some (.int a), some (.int b), some (.int c)]) rfl ?_
  refine zi_aload_n O d_Cut_init_0 rfl ?_
  refine zi_objInit O d_Cut_init_1 z_o_Cut z_oI z_oC (Nat.le_of_ble_eq_true rfl) (Nat.le_of_ble_eq_true rfl) ?_
  refine zi_aload_n O d_Cut_init_4 rfl ?_
  refine zi_iload_n O d_Cut_init_5 rfl ?_
  refine zi_putF O hin f_Cut_7 d_Cut_init_6 rfl rfl (Nat.le_of_ble_eq_true rfl) (fun _ => rfl) (fun _ => rfl) (by dsimp only [List.set]) ?_
  refine zi_aload_n O d_Cut_init_9 rfl ?_
  refine zi_iload_n O d_Cut_init_10 rfl ?_
  refine zi_putF O hin f_Cut_13 d_Cut_init_11 rfl rfl (Nat.le_of_ble_eq_true rfl) (fun _ => rfl) (fun _ => rfl) (by dsimp only [List.set]) ?_
  refine zi_aload_n O d_Cut_init_14 rfl ?_
  refine zi_iload_n O d_Cut_init_15 rfl ?_
  refine zi_putF O hin f_Cut_16 d_Cut_init_16 rfl rfl (Nat.le_of_ble_eq_true rfl) (fun _ => rfl) (fun _ => rfl) (by dsimp only [List.set]) ?_
  refine zi_vret O d_Cut_init_19 (Nat.le_of_ble_eq_true rfl) (Nat.le_of_ble_eq_true rfl) (Nat.le_of_ble_eq_true rfl) ?_
  exact ⟨rfl, rfl⟩
theorem m_Cut_in (a b c x : Int32) : zPu y_Cut_in b_Cut_in 2 (some .int) ⟨0, 0, 0, 0⟩ [.ref 0, .int x] [cutC a b c] (.int (if x = 0 then b else a)) := by
  refine zMet_of (plainFor_of_name (by decide +kernel)) rfl (Nat.le_of_ble_eq_true rfl) (fun z1 z2 z3 z4 z5 z6 z7 z8 z9 z10 z11 z12 z13 z14 O hin => ?_)
  refine zi_ls (ls' := [some (.ref 0), some (.int x)]) rfl ?_
  refine zi_iload_n O d_Cut_in_0 rfl ?_
  refine zi_if_eq O 11 d_Cut_in_1 (by decide) (fun c1 => ?_) (fun c1 => ?_)
  · refine zi_aload_n O d_Cut_in_11 rfl ?_
    refine zi_get O f_Cut_13 d_Cut_in_12 rfl rfl ?_
    refine zi_iret O d_Cut_in_15 (Nat.le_of_ble_eq_true rfl) (Nat.le_of_ble_eq_true rfl) (Nat.le_of_ble_eq_true rfl) ?_
    exact ⟨by rw [if_pos c1], rfl⟩
  · refine zi_aload_n O d_Cut_in_4 rfl ?_
    refine zi_get O f_Cut_7 d_Cut_in_5 rfl rfl ?_
    refine zi_goto O 15 d_Cut_in_8 (by decide) ?_
    refine zi_iret O d_Cut_in_15 (Nat.le_of_ble_eq_true rfl) (Nat.le_of_ble_eq_true rfl) (Nat.le_of_ble_eq_true rfl) ?_
    exact ⟨by rw [if_neg c1], rfl⟩
theorem m_Cut_out (a b c x : Int32) : zPu y_Cut_out b_Cut_out 2 (some .int) ⟨0, 0, 0, 0⟩ [.ref 0, .int x] [cutC a b c] (.int (if x = 0 then c else b)) := by
  refine zMet_of (plainFor_of_name (by decide +kernel)) rfl (Nat.le_of_ble_eq_true rfl) (fun z1 z2 z3 z4 z5 z6 z7 z8 z9 z10 z11 z12 z13 z14 O hin => ?_)
  refine zi_ls (ls' := [some (.ref 0), some (.int x)]) rfl ?_
  refine zi_iload_n O d_Cut_out_0 rfl ?_
  refine zi_if_eq O 11 d_Cut_out_1 (by decide) (fun c1 => ?_) (fun c1 => ?_)
  · refine zi_aload_n O d_Cut_out_11 rfl ?_
    refine zi_get O f_Cut_16 d_Cut_out_12 rfl rfl ?_
    refine zi_iret O d_Cut_out_15 (Nat.le_of_ble_eq_true rfl) (Nat.le_of_ble_eq_true rfl) (Nat.le_of_ble_eq_true rfl) ?_
    exact ⟨by rw [if_pos c1], rfl⟩
  · refine zi_aload_n O d_Cut_out_4 rfl ?_
    refine zi_get O f_Cut_13 d_Cut_out_5 rfl rfl ?_
    refine zi_goto O 15 d_Cut_out_8 (by decide) ?_
    refine zi_iret O d_Cut_out_15 (Nat.le_of_ble_eq_true rfl) (Nat.le_of_ble_eq_true rfl) (Nat.le_of_ble_eq_true rfl) ?_
    exact ⟨by rw [if_neg c1], rfl⟩
/-- the row with one crossing more -/
def up4 (L : Nat → Int32) (n : Nat) (l0 l1 l2 l3 : Int32) : Nat → Int32 := upd (upd (upd (upd L (4 * n) l0) (4 * n + 1) l1) (4 * n + 2) l2) (4 * n + 3) l3
def if1 (sg a b : Int32) : Int32 := if sg = nI 1 then a else b
def if0 (x a b : Int32) : Int32 := if x = 0 then a else b
section
variable {n : Nat} {lab : Nat → Nat} {S : Nat → Int32} {ci : Int32} {el fr to_ at_ oc : Nat → Nat} {h : List zE}
set_option maxHeartbeats 1000000 in
theorem m_Dia_addCrossing_0 {L PL LB FR TO AT OF RD ST OC CE SL : Nat → Int32} {m F pc co : Nat} (hn : n < 20) (sg uf lf a1 a2 a3 b1 b2 b3 : Int32) : zMet y_Dia_addCrossing b_Dia_addCrossing 10 none ⟨2, 0, 0, 50⟩ [.ref 0, .int sg, .ref 18, .int uf, .ref 18, .int lf] (diaH ci n L S m PL LB FR TO AT F OF RD ST pc co OC CE SL ++ [cutC a1 a2 a3])
    (fun r h' => r = none ∧ h' = diaH ci (n + 1) (up4 L n (if0 lf a2 a1) (if1 sg (if0 uf a3 a2) (if0 uf a2 a1)) (if0 lf a3 a2) (if1 sg (if0 uf a2 a1) (if0 uf a3 a2))) (upd S n sg) m PL LB FR TO AT F OF RD ST pc co OC CE SL ++ [cutC a1 a2 a3]) := by
  refine zMet_of (plainFor_of_name (by decide +kernel)) rfl (Nat.le_of_ble_eq_true rfl) (fun z1 z2 z3 z4 z5 z6 z7 z8 z9 z10 z11 z12 z13 z14 O hin => ?_)
  refine zi_ls (ls' := [some (.ref 0), some (.int sg), some (.ref 18), some (.int uf), some (.ref 18), some (.int lf), none, none, none, none]) rfl ?_
  refine zi_aload_n O d_Dia_addCrossing_0 rfl ?_
  refine zi_iload_n O d_Dia_addCrossing_1 rfl ?_
  refine zi_pureV O [18] c_Dia_166 k_Cut_in (m_Cut_in a1 a2 a3 uf) d_Dia_addCrossing_2 ⟨(Nat.le_of_ble_eq_true rfl), (Nat.le_of_ble_eq_true rfl)⟩ ⟨(Nat.le_of_ble_eq_true rfl), (Nat.le_of_ble_eq_true rfl)⟩ rfl rfl (Nat.le_of_ble_eq_true rfl) rfl rfl rfl rfl rfl (Nat.le_of_ble_eq_true rfl) rfl ?_
  refine zi_istore (ls' := _ :: _ :: _ :: _ :: _ :: _ :: some _ :: _) O d_Dia_addCrossing_5 rfl (by decide) rfl ?_
  refine zi_aload_n O d_Dia_addCrossing_7 rfl ?_
  refine zi_iload_n O d_Dia_addCrossing_8 rfl ?_
  refine zi_pureV O [18] c_Dia_170 k_Cut_out (m_Cut_out a1 a2 a3 uf) d_Dia_addCrossing_9 ⟨(Nat.le_of_ble_eq_true rfl), (Nat.le_of_ble_eq_true rfl)⟩ ⟨(Nat.le_of_ble_eq_true rfl), (Nat.le_of_ble_eq_true rfl)⟩ rfl rfl (Nat.le_of_ble_eq_true rfl) rfl rfl rfl rfl rfl (Nat.le_of_ble_eq_true rfl) rfl ?_
  refine zi_istore (ls' := _ :: _ :: _ :: _ :: _ :: _ :: _ :: some _ :: _) O d_Dia_addCrossing_12 rfl (by decide) rfl ?_
  refine zi_iload_n O d_Dia_addCrossing_14 rfl ?_
  refine zi_iconstN O 1 d_Dia_addCrossing_15 (by decide) ?_
  have fin : ∀ x y : Int32, x = if1 sg (if0 uf a3 a2) (if0 uf a2 a1) → y = if1 sg (if0 uf a2 a1) (if0 uf a3 a2) → zG z1 z2 z3 z4 z5 z6 z7 z8 z9 z10 z11 z12 z13 z14 19 10 (fun r h' => r = none ∧ h' = diaH ci (n + 1) (up4 L n (if0 lf a2 a1) (if1 sg (if0 uf a3 a2) (if0 uf a2 a1)) (if0 lf a3 a2) (if1 sg (if0 uf a2 a1) (if0 uf a3 a2))) (upd S n sg) m PL LB FR TO AT F OF RD ST pc co OC CE SL ++ [cutC a1 a2 a3]) 0 0 0 0 42 [some (.ref 0), some (.int sg), some (.ref 18), some (.int uf), some (.ref 18), some (.int lf), some (.int (if uf = 0 then a2 else a1)), some (.int (if uf = 0 then a3 else a2)), some (.int x), some (.int y)] [] (diaH ci n L S m PL LB FR TO AT F OF RD ST pc co OC CE SL ++ [cutC a1 a2 a3]) := by
    intro x y hx hy
    refine zi_aload_n O d_Dia_addCrossing_42 rfl ?_
    refine zi_get O f_Dia_12 d_Dia_addCrossing_43 rfl rfl ?_
    refine zi_iload_n O d_Dia_addCrossing_46 rfl ?_
    refine zi_aload O d_Dia_addCrossing_47 rfl ?_
    refine zi_iload O d_Dia_addCrossing_49 rfl ?_
    refine zi_pureV O [18] c_Dia_166 k_Cut_in (m_Cut_in a1 a2 a3 lf) d_Dia_addCrossing_51 ⟨(Nat.le_of_ble_eq_true rfl), (Nat.le_of_ble_eq_true rfl)⟩ ⟨(Nat.le_of_ble_eq_true rfl), (Nat.le_of_ble_eq_true rfl)⟩ rfl rfl (Nat.le_of_ble_eq_true rfl) rfl rfl rfl rfl rfl (Nat.le_of_ble_eq_true rfl) rfl ?_
    refine zi_iload O d_Dia_addCrossing_54 rfl ?_
    refine zi_aload O d_Dia_addCrossing_56 rfl ?_
    refine zi_iload O d_Dia_addCrossing_58 rfl ?_
    refine zi_pureV O [18] c_Dia_170 k_Cut_out (m_Cut_out a1 a2 a3 lf) d_Dia_addCrossing_60 ⟨(Nat.le_of_ble_eq_true rfl), (Nat.le_of_ble_eq_true rfl)⟩ ⟨(Nat.le_of_ble_eq_true rfl), (Nat.le_of_ble_eq_true rfl)⟩ rfl rfl (Nat.le_of_ble_eq_true rfl) rfl rfl rfl rfl rfl (Nat.le_of_ble_eq_true rfl) rfl ?_
    refine zi_iload O d_Dia_addCrossing_63 rfl ?_
    refine zi_callV O [1, 2, 3] c_Dia_173 k_Row_add (m_Row_add n L S sg (if lf = 0 then a2 else a1) x (if lf = 0 then a3 else a2) y hn) d_Dia_addCrossing_65 ⟨(Nat.le_of_ble_eq_true rfl), (Nat.le_of_ble_eq_true rfl)⟩ ⟨(Nat.le_of_ble_eq_true rfl), (Nat.le_of_ble_eq_true rfl)⟩ rfl rfl (Nat.le_of_ble_eq_true rfl) rfl rfl rfl rfl rfl (Nat.le_of_ble_eq_true rfl) rfl (fun r h' hq hl => ?_)
    obtain ⟨rfl, rfl⟩ := hq
    refine zi_st (st' := []) rfl (zi_h (h' := diaH ci (n + 1) (up4 L n (if lf = 0 then a2 else a1) x (if lf = 0 then a3 else a2) y) (upd S n sg) m PL LB FR TO AT F OF RD ST pc co OC CE SL ++ [cutC a1 a2 a3]) rfl ?_)
    refine zi_vret O d_Dia_addCrossing_68 (Nat.le_of_ble_eq_true rfl) (Nat.le_of_ble_eq_true rfl) (Nat.le_of_ble_eq_true rfl) ?_
    exact ⟨rfl, by rw [hx, hy]; rfl⟩
  refine zi_icmp_ne O 24 d_Dia_addCrossing_16 (by decide) (fun c16 => ?_) (fun c16 => ?_)
  · refine zi_iload O d_Dia_addCrossing_24 rfl ?_
    refine zi_istore (ls' := _ :: _ :: _ :: _ :: _ :: _ :: _ :: _ :: some _ :: _) O d_Dia_addCrossing_26 rfl (by decide) rfl ?_
    refine zi_iload_n O d_Dia_addCrossing_28 rfl ?_
    refine zi_iconstN O 1 d_Dia_addCrossing_29 (by decide) ?_
    refine zi_icmp_ne O 38 d_Dia_addCrossing_30 (by decide) (fun c30 => ?_) (fun c30 => ?_)
    · refine zi_iload O d_Dia_addCrossing_38 rfl ?_
      refine zi_istore (ls' := _ :: _ :: _ :: _ :: _ :: _ :: _ :: _ :: _ :: some _ :: _) O d_Dia_addCrossing_40 rfl (by decide) rfl ?_
      exact fin _ _ (by unfold if1 if0; rw [if_neg c16]) (by unfold if1 if0; rw [if_neg c16])
    · exact absurd c30 c16
  · refine zi_iload O d_Dia_addCrossing_19 rfl ?_
    refine zi_goto O 26 d_Dia_addCrossing_21 (by decide) ?_
    refine zi_istore (ls' := _ :: _ :: _ :: _ :: _ :: _ :: _ :: _ :: some _ :: _) O d_Dia_addCrossing_26 rfl (by decide) rfl ?_
    refine zi_iload_n O d_Dia_addCrossing_28 rfl ?_
    refine zi_iconstN O 1 d_Dia_addCrossing_29 (by decide) ?_
    refine zi_icmp_ne O 38 d_Dia_addCrossing_30 (by decide) (fun c30 => ?_) (fun c30 => ?_)
    · exact absurd c16 c30
    · refine zi_iload O d_Dia_addCrossing_33 rfl ?_
      refine zi_goto O 40 d_Dia_addCrossing_35 (by decide) ?_
      refine zi_istore (ls' := _ :: _ :: _ :: _ :: _ :: _ :: _ :: _ :: _ :: some _ :: _) O d_Dia_addCrossing_40 rfl (by decide) rfl ?_
      exact fin _ _ (by unfold if1 if0; rw [if_pos c16]) (by unfold if1 if0; rw [if_pos c16])
set_option maxHeartbeats 1000000 in
theorem m_Dia_addCrossing_1 {L PL LB FR TO AT OF RD ST OC CE SL : Nat → Int32} {m F pc co : Nat} (hn : n < 20) (sg uf lf a1 a2 a3 b1 b2 b3 : Int32) : zMet y_Dia_addCrossing b_Dia_addCrossing 10 none ⟨2, 0, 0, 50⟩ [.ref 0, .int sg, .ref 18, .int uf, .ref 19, .int lf] (diaH ci n L S m PL LB FR TO AT F OF RD ST pc co OC CE SL ++ [cutC a1 a2 a3, cutC b1 b2 b3])
    (fun r h' => r = none ∧ h' = diaH ci (n + 1) (up4 L n (if0 lf b2 b1) (if1 sg (if0 uf a3 a2) (if0 uf a2 a1)) (if0 lf b3 b2) (if1 sg (if0 uf a2 a1) (if0 uf a3 a2))) (upd S n sg) m PL LB FR TO AT F OF RD ST pc co OC CE SL ++ [cutC a1 a2 a3, cutC b1 b2 b3]) := by
  refine zMet_of (plainFor_of_name (by decide +kernel)) rfl (Nat.le_of_ble_eq_true rfl) (fun z1 z2 z3 z4 z5 z6 z7 z8 z9 z10 z11 z12 z13 z14 O hin => ?_)
  refine zi_ls (ls' := [some (.ref 0), some (.int sg), some (.ref 18), some (.int uf), some (.ref 19), some (.int lf), none, none, none, none]) rfl ?_
  refine zi_aload_n O d_Dia_addCrossing_0 rfl ?_
  refine zi_iload_n O d_Dia_addCrossing_1 rfl ?_
  refine zi_pureV O [18] c_Dia_166 k_Cut_in (m_Cut_in a1 a2 a3 uf) d_Dia_addCrossing_2 ⟨(Nat.le_of_ble_eq_true rfl), (Nat.le_of_ble_eq_true rfl)⟩ ⟨(Nat.le_of_ble_eq_true rfl), (Nat.le_of_ble_eq_true rfl)⟩ rfl rfl (Nat.le_of_ble_eq_true rfl) rfl rfl rfl rfl rfl (Nat.le_of_ble_eq_true rfl) rfl ?_
  refine zi_istore (ls' := _ :: _ :: _ :: _ :: _ :: _ :: some _ :: _) O d_Dia_addCrossing_5 rfl (by decide) rfl ?_
  refine zi_aload_n O d_Dia_addCrossing_7 rfl ?_
  refine zi_iload_n O d_Dia_addCrossing_8 rfl ?_
  refine zi_pureV O [18] c_Dia_170 k_Cut_out (m_Cut_out a1 a2 a3 uf) d_Dia_addCrossing_9 ⟨(Nat.le_of_ble_eq_true rfl), (Nat.le_of_ble_eq_true rfl)⟩ ⟨(Nat.le_of_ble_eq_true rfl), (Nat.le_of_ble_eq_true rfl)⟩ rfl rfl (Nat.le_of_ble_eq_true rfl) rfl rfl rfl rfl rfl (Nat.le_of_ble_eq_true rfl) rfl ?_
  refine zi_istore (ls' := _ :: _ :: _ :: _ :: _ :: _ :: _ :: some _ :: _) O d_Dia_addCrossing_12 rfl (by decide) rfl ?_
  refine zi_iload_n O d_Dia_addCrossing_14 rfl ?_
  refine zi_iconstN O 1 d_Dia_addCrossing_15 (by decide) ?_
  have fin : ∀ x y : Int32, x = if1 sg (if0 uf a3 a2) (if0 uf a2 a1) → y = if1 sg (if0 uf a2 a1) (if0 uf a3 a2) → zG z1 z2 z3 z4 z5 z6 z7 z8 z9 z10 z11 z12 z13 z14 20 10 (fun r h' => r = none ∧ h' = diaH ci (n + 1) (up4 L n (if0 lf b2 b1) (if1 sg (if0 uf a3 a2) (if0 uf a2 a1)) (if0 lf b3 b2) (if1 sg (if0 uf a2 a1) (if0 uf a3 a2))) (upd S n sg) m PL LB FR TO AT F OF RD ST pc co OC CE SL ++ [cutC a1 a2 a3, cutC b1 b2 b3]) 0 0 0 0 42 [some (.ref 0), some (.int sg), some (.ref 18), some (.int uf), some (.ref 19), some (.int lf), some (.int (if uf = 0 then a2 else a1)), some (.int (if uf = 0 then a3 else a2)), some (.int x), some (.int y)] [] (diaH ci n L S m PL LB FR TO AT F OF RD ST pc co OC CE SL ++ [cutC a1 a2 a3, cutC b1 b2 b3]) := by
    intro x y hx hy
    refine zi_aload_n O d_Dia_addCrossing_42 rfl ?_
    refine zi_get O f_Dia_12 d_Dia_addCrossing_43 rfl rfl ?_
    refine zi_iload_n O d_Dia_addCrossing_46 rfl ?_
    refine zi_aload O d_Dia_addCrossing_47 rfl ?_
    refine zi_iload O d_Dia_addCrossing_49 rfl ?_
    refine zi_pureV O [19] c_Dia_166 k_Cut_in (m_Cut_in b1 b2 b3 lf) d_Dia_addCrossing_51 ⟨(Nat.le_of_ble_eq_true rfl), (Nat.le_of_ble_eq_true rfl)⟩ ⟨(Nat.le_of_ble_eq_true rfl), (Nat.le_of_ble_eq_true rfl)⟩ rfl rfl (Nat.le_of_ble_eq_true rfl) rfl rfl rfl rfl rfl (Nat.le_of_ble_eq_true rfl) rfl ?_
    refine zi_iload O d_Dia_addCrossing_54 rfl ?_
    refine zi_aload O d_Dia_addCrossing_56 rfl ?_
    refine zi_iload O d_Dia_addCrossing_58 rfl ?_
    refine zi_pureV O [19] c_Dia_170 k_Cut_out (m_Cut_out b1 b2 b3 lf) d_Dia_addCrossing_60 ⟨(Nat.le_of_ble_eq_true rfl), (Nat.le_of_ble_eq_true rfl)⟩ ⟨(Nat.le_of_ble_eq_true rfl), (Nat.le_of_ble_eq_true rfl)⟩ rfl rfl (Nat.le_of_ble_eq_true rfl) rfl rfl rfl rfl rfl (Nat.le_of_ble_eq_true rfl) rfl ?_
    refine zi_iload O d_Dia_addCrossing_63 rfl ?_
    refine zi_callV O [1, 2, 3] c_Dia_173 k_Row_add (m_Row_add n L S sg (if lf = 0 then b2 else b1) x (if lf = 0 then b3 else b2) y hn) d_Dia_addCrossing_65 ⟨(Nat.le_of_ble_eq_true rfl), (Nat.le_of_ble_eq_true rfl)⟩ ⟨(Nat.le_of_ble_eq_true rfl), (Nat.le_of_ble_eq_true rfl)⟩ rfl rfl (Nat.le_of_ble_eq_true rfl) rfl rfl rfl rfl rfl (Nat.le_of_ble_eq_true rfl) rfl (fun r h' hq hl => ?_)
    obtain ⟨rfl, rfl⟩ := hq
    refine zi_st (st' := []) rfl (zi_h (h' := diaH ci (n + 1) (up4 L n (if lf = 0 then b2 else b1) x (if lf = 0 then b3 else b2) y) (upd S n sg) m PL LB FR TO AT F OF RD ST pc co OC CE SL ++ [cutC a1 a2 a3, cutC b1 b2 b3]) rfl ?_)
    refine zi_vret O d_Dia_addCrossing_68 (Nat.le_of_ble_eq_true rfl) (Nat.le_of_ble_eq_true rfl) (Nat.le_of_ble_eq_true rfl) ?_
    exact ⟨rfl, by rw [hx, hy]; rfl⟩
  refine zi_icmp_ne O 24 d_Dia_addCrossing_16 (by decide) (fun c16 => ?_) (fun c16 => ?_)
  · refine zi_iload O d_Dia_addCrossing_24 rfl ?_
    refine zi_istore (ls' := _ :: _ :: _ :: _ :: _ :: _ :: _ :: _ :: some _ :: _) O d_Dia_addCrossing_26 rfl (by decide) rfl ?_
    refine zi_iload_n O d_Dia_addCrossing_28 rfl ?_
    refine zi_iconstN O 1 d_Dia_addCrossing_29 (by decide) ?_
    refine zi_icmp_ne O 38 d_Dia_addCrossing_30 (by decide) (fun c30 => ?_) (fun c30 => ?_)
    · refine zi_iload O d_Dia_addCrossing_38 rfl ?_
      refine zi_istore (ls' := _ :: _ :: _ :: _ :: _ :: _ :: _ :: _ :: _ :: some _ :: _) O d_Dia_addCrossing_40 rfl (by decide) rfl ?_
      exact fin _ _ (by unfold if1 if0; rw [if_neg c16]) (by unfold if1 if0; rw [if_neg c16])
    · exact absurd c30 c16
  · refine zi_iload O d_Dia_addCrossing_19 rfl ?_
    refine zi_goto O 26 d_Dia_addCrossing_21 (by decide) ?_
    refine zi_istore (ls' := _ :: _ :: _ :: _ :: _ :: _ :: _ :: _ :: some _ :: _) O d_Dia_addCrossing_26 rfl (by decide) rfl ?_
    refine zi_iload_n O d_Dia_addCrossing_28 rfl ?_
    refine zi_iconstN O 1 d_Dia_addCrossing_29 (by decide) ?_
    refine zi_icmp_ne O 38 d_Dia_addCrossing_30 (by decide) (fun c30 => ?_) (fun c30 => ?_)
    · exact absurd c16 c30
    · refine zi_iload O d_Dia_addCrossing_33 rfl ?_
      refine zi_goto O 40 d_Dia_addCrossing_35 (by decide) ?_
      refine zi_istore (ls' := _ :: _ :: _ :: _ :: _ :: _ :: _ :: _ :: _ :: some _ :: _) O d_Dia_addCrossing_40 rfl (by decide) rfl ?_
      exact fin _ _ (by unfold if1 if0; rw [if_pos c16]) (by unfold if1 if0; rw [if_pos c16])
set_option maxHeartbeats 1000000 in
theorem m_Dia_addCrossing_2 {L PL LB FR TO AT OF RD ST OC CE SL : Nat → Int32} {m F pc co : Nat} (hn : n < 20) (sg uf lf a1 a2 a3 b1 b2 b3 : Int32) : zMet y_Dia_addCrossing b_Dia_addCrossing 10 none ⟨2, 0, 0, 50⟩ [.ref 0, .int sg, .ref 19, .int uf, .ref 18, .int lf] (diaH ci n L S m PL LB FR TO AT F OF RD ST pc co OC CE SL ++ [cutC b1 b2 b3, cutC a1 a2 a3])
    (fun r h' => r = none ∧ h' = diaH ci (n + 1) (up4 L n (if0 lf b2 b1) (if1 sg (if0 uf a3 a2) (if0 uf a2 a1)) (if0 lf b3 b2) (if1 sg (if0 uf a2 a1) (if0 uf a3 a2))) (upd S n sg) m PL LB FR TO AT F OF RD ST pc co OC CE SL ++ [cutC b1 b2 b3, cutC a1 a2 a3]) := by
  refine zMet_of (plainFor_of_name (by decide +kernel)) rfl (Nat.le_of_ble_eq_true rfl) (fun z1 z2 z3 z4 z5 z6 z7 z8 z9 z10 z11 z12 z13 z14 O hin => ?_)
  refine zi_ls (ls' := [some (.ref 0), some (.int sg), some (.ref 19), some (.int uf), some (.ref 18), some (.int lf), none, none, none, none]) rfl ?_
  refine zi_aload_n O d_Dia_addCrossing_0 rfl ?_
  refine zi_iload_n O d_Dia_addCrossing_1 rfl ?_
  refine zi_pureV O [19] c_Dia_166 k_Cut_in (m_Cut_in a1 a2 a3 uf) d_Dia_addCrossing_2 ⟨(Nat.le_of_ble_eq_true rfl), (Nat.le_of_ble_eq_true rfl)⟩ ⟨(Nat.le_of_ble_eq_true rfl), (Nat.le_of_ble_eq_true rfl)⟩ rfl rfl (Nat.le_of_ble_eq_true rfl) rfl rfl rfl rfl rfl (Nat.le_of_ble_eq_true rfl) rfl ?_
  refine zi_istore (ls' := _ :: _ :: _ :: _ :: _ :: _ :: some _ :: _) O d_Dia_addCrossing_5 rfl (by decide) rfl ?_
  refine zi_aload_n O d_Dia_addCrossing_7 rfl ?_
  refine zi_iload_n O d_Dia_addCrossing_8 rfl ?_
  refine zi_pureV O [19] c_Dia_170 k_Cut_out (m_Cut_out a1 a2 a3 uf) d_Dia_addCrossing_9 ⟨(Nat.le_of_ble_eq_true rfl), (Nat.le_of_ble_eq_true rfl)⟩ ⟨(Nat.le_of_ble_eq_true rfl), (Nat.le_of_ble_eq_true rfl)⟩ rfl rfl (Nat.le_of_ble_eq_true rfl) rfl rfl rfl rfl rfl (Nat.le_of_ble_eq_true rfl) rfl ?_
  refine zi_istore (ls' := _ :: _ :: _ :: _ :: _ :: _ :: _ :: some _ :: _) O d_Dia_addCrossing_12 rfl (by decide) rfl ?_
  refine zi_iload_n O d_Dia_addCrossing_14 rfl ?_
  refine zi_iconstN O 1 d_Dia_addCrossing_15 (by decide) ?_
  have fin : ∀ x y : Int32, x = if1 sg (if0 uf a3 a2) (if0 uf a2 a1) → y = if1 sg (if0 uf a2 a1) (if0 uf a3 a2) → zG z1 z2 z3 z4 z5 z6 z7 z8 z9 z10 z11 z12 z13 z14 20 10 (fun r h' => r = none ∧ h' = diaH ci (n + 1) (up4 L n (if0 lf b2 b1) (if1 sg (if0 uf a3 a2) (if0 uf a2 a1)) (if0 lf b3 b2) (if1 sg (if0 uf a2 a1) (if0 uf a3 a2))) (upd S n sg) m PL LB FR TO AT F OF RD ST pc co OC CE SL ++ [cutC b1 b2 b3, cutC a1 a2 a3]) 0 0 0 0 42 [some (.ref 0), some (.int sg), some (.ref 19), some (.int uf), some (.ref 18), some (.int lf), some (.int (if uf = 0 then a2 else a1)), some (.int (if uf = 0 then a3 else a2)), some (.int x), some (.int y)] [] (diaH ci n L S m PL LB FR TO AT F OF RD ST pc co OC CE SL ++ [cutC b1 b2 b3, cutC a1 a2 a3]) := by
    intro x y hx hy
    refine zi_aload_n O d_Dia_addCrossing_42 rfl ?_
    refine zi_get O f_Dia_12 d_Dia_addCrossing_43 rfl rfl ?_
    refine zi_iload_n O d_Dia_addCrossing_46 rfl ?_
    refine zi_aload O d_Dia_addCrossing_47 rfl ?_
    refine zi_iload O d_Dia_addCrossing_49 rfl ?_
    refine zi_pureV O [18] c_Dia_166 k_Cut_in (m_Cut_in b1 b2 b3 lf) d_Dia_addCrossing_51 ⟨(Nat.le_of_ble_eq_true rfl), (Nat.le_of_ble_eq_true rfl)⟩ ⟨(Nat.le_of_ble_eq_true rfl), (Nat.le_of_ble_eq_true rfl)⟩ rfl rfl (Nat.le_of_ble_eq_true rfl) rfl rfl rfl rfl rfl (Nat.le_of_ble_eq_true rfl) rfl ?_
    refine zi_iload O d_Dia_addCrossing_54 rfl ?_
    refine zi_aload O d_Dia_addCrossing_56 rfl ?_
    refine zi_iload O d_Dia_addCrossing_58 rfl ?_
    refine zi_pureV O [18] c_Dia_170 k_Cut_out (m_Cut_out b1 b2 b3 lf) d_Dia_addCrossing_60 ⟨(Nat.le_of_ble_eq_true rfl), (Nat.le_of_ble_eq_true rfl)⟩ ⟨(Nat.le_of_ble_eq_true rfl), (Nat.le_of_ble_eq_true rfl)⟩ rfl rfl (Nat.le_of_ble_eq_true rfl) rfl rfl rfl rfl rfl (Nat.le_of_ble_eq_true rfl) rfl ?_
    refine zi_iload O d_Dia_addCrossing_63 rfl ?_
    refine zi_callV O [1, 2, 3] c_Dia_173 k_Row_add (m_Row_add n L S sg (if lf = 0 then b2 else b1) x (if lf = 0 then b3 else b2) y hn) d_Dia_addCrossing_65 ⟨(Nat.le_of_ble_eq_true rfl), (Nat.le_of_ble_eq_true rfl)⟩ ⟨(Nat.le_of_ble_eq_true rfl), (Nat.le_of_ble_eq_true rfl)⟩ rfl rfl (Nat.le_of_ble_eq_true rfl) rfl rfl rfl rfl rfl (Nat.le_of_ble_eq_true rfl) rfl (fun r h' hq hl => ?_)
    obtain ⟨rfl, rfl⟩ := hq
    refine zi_st (st' := []) rfl (zi_h (h' := diaH ci (n + 1) (up4 L n (if lf = 0 then b2 else b1) x (if lf = 0 then b3 else b2) y) (upd S n sg) m PL LB FR TO AT F OF RD ST pc co OC CE SL ++ [cutC b1 b2 b3, cutC a1 a2 a3]) rfl ?_)
    refine zi_vret O d_Dia_addCrossing_68 (Nat.le_of_ble_eq_true rfl) (Nat.le_of_ble_eq_true rfl) (Nat.le_of_ble_eq_true rfl) ?_
    exact ⟨rfl, by rw [hx, hy]; rfl⟩
  refine zi_icmp_ne O 24 d_Dia_addCrossing_16 (by decide) (fun c16 => ?_) (fun c16 => ?_)
  · refine zi_iload O d_Dia_addCrossing_24 rfl ?_
    refine zi_istore (ls' := _ :: _ :: _ :: _ :: _ :: _ :: _ :: _ :: some _ :: _) O d_Dia_addCrossing_26 rfl (by decide) rfl ?_
    refine zi_iload_n O d_Dia_addCrossing_28 rfl ?_
    refine zi_iconstN O 1 d_Dia_addCrossing_29 (by decide) ?_
    refine zi_icmp_ne O 38 d_Dia_addCrossing_30 (by decide) (fun c30 => ?_) (fun c30 => ?_)
    · refine zi_iload O d_Dia_addCrossing_38 rfl ?_
      refine zi_istore (ls' := _ :: _ :: _ :: _ :: _ :: _ :: _ :: _ :: _ :: some _ :: _) O d_Dia_addCrossing_40 rfl (by decide) rfl ?_
      exact fin _ _ (by unfold if1 if0; rw [if_neg c16]) (by unfold if1 if0; rw [if_neg c16])
    · exact absurd c30 c16
  · refine zi_iload O d_Dia_addCrossing_19 rfl ?_
    refine zi_goto O 26 d_Dia_addCrossing_21 (by decide) ?_
    refine zi_istore (ls' := _ :: _ :: _ :: _ :: _ :: _ :: _ :: _ :: some _ :: _) O d_Dia_addCrossing_26 rfl (by decide) rfl ?_
    refine zi_iload_n O d_Dia_addCrossing_28 rfl ?_
    refine zi_iconstN O 1 d_Dia_addCrossing_29 (by decide) ?_
    refine zi_icmp_ne O 38 d_Dia_addCrossing_30 (by decide) (fun c30 => ?_) (fun c30 => ?_)
    · exact absurd c16 c30
    · refine zi_iload O d_Dia_addCrossing_33 rfl ?_
      refine zi_goto O 40 d_Dia_addCrossing_35 (by decide) ?_
      refine zi_istore (ls' := _ :: _ :: _ :: _ :: _ :: _ :: _ :: _ :: _ :: some _ :: _) O d_Dia_addCrossing_40 rfl (by decide) rfl ?_
      exact fin _ _ (by unfold if1 if0; rw [if_pos c16]) (by unfold if1 if0; rw [if_pos c16])
theorem fa_le (LB : Nat → Int32) (a : Nat) : ∀ i, a + 1 ≤ fa LB a i ∧ fa LB a i ≤ a + 1 + i
  | 0 => ⟨Nat.le_refl _, Nat.le_refl _⟩
  | i + 1 => by
    have := fa_le LB a i
    rw [fa]
    split <;> omega
set_option maxHeartbeats 1000000 in
theorem m_Dia_cutEdge {L PL LB FR TO AT OF RD ST OC CE SL : Nat → Int32} {F pc co : Nat} (hn : n ≤ 20) (hE : Ed n lab S el fr to_ at_) (hA : EdA n el fr to_ at_ LB FR TO AT) (e a : Nat) (he : e < 2 * n) {S' : Nat → Int32} : zMet y_Dia_cutEdge b_Dia_cutEdge 5 (some (.object "DiagramMoves$Cut")) ⟨2, 1, 3, 50⟩ [.ref 0, .int (nI e), .int (nI a)] (diaH ci n L S' (2 * n) PL LB FR TO AT F OF RD ST pc co OC CE SL)
    (fun r h' => r = some (.ref 18) ∧ h' = diaH ci n (upd L (to_ e) (nI (fa LB (fa LB a (2 * n)) (2 * n)))) S' (2 * n) PL LB FR TO AT F OF RD ST pc co OC CE SL ++ [cutC (nI (el e)) (nI (fa LB a (2 * n))) (nI (fa LB (fa LB a (2 * n)) (2 * n)))]) := by
  obtain ⟨b1, b2, b3, b4, b5, b6⟩ := hE.1 e he
  obtain ⟨a1, a2, a3⟩ := hA.1 e he
  refine zMet_of (plainFor_of_name (by decide +kernel)) rfl (Nat.le_of_ble_eq_true rfl) (fun z1 z2 z3 z4 z5 z6 z7 z8 z9 z10 z11 z12 z13 z14 O hin => ?_)
  refine zi_ls (ls' := [some (.ref 0), some (.int (nI e)), some (.int (nI a)), none, none]) rfl ?_
  refine zi_aload_n O d_Dia_cutEdge_0 rfl ?_
  refine zi_get O f_Dia_21 d_Dia_cutEdge_1 rfl rfl ?_
  refine zi_iload_n O d_Dia_cutEdge_4 rfl ?_
  refine zi_pureV O [4, 5, 6, 7, 8, 9] c_Dia_143 k_Edg_freeAfter (m_Edg_freeAfter (2 * n) PL LB FR TO AT a (by omega)) d_Dia_cutEdge_5 ⟨(Nat.le_of_ble_eq_true rfl), (Nat.le_of_ble_eq_true rfl)⟩ ⟨(Nat.le_of_ble_eq_true rfl), (Nat.le_of_ble_eq_true rfl)⟩ rfl rfl (Nat.le_of_ble_eq_true rfl) rfl rfl rfl rfl rfl (Nat.le_of_ble_eq_true rfl) rfl ?_
  refine zi_istore_n (ls' := _ :: _ :: _ :: some _ :: _) O d_Dia_cutEdge_8 rfl (by decide) rfl ?_
  refine zi_aload_n O d_Dia_cutEdge_9 rfl ?_
  refine zi_get O f_Dia_21 d_Dia_cutEdge_10 rfl rfl ?_
  refine zi_iload_n O d_Dia_cutEdge_13 rfl ?_
  refine zi_pureV O [4, 5, 6, 7, 8, 9] c_Dia_143 k_Edg_freeAfter (m_Edg_freeAfter (2 * n) PL LB FR TO AT (fa LB a (2 * n)) (by omega)) d_Dia_cutEdge_14 ⟨(Nat.le_of_ble_eq_true rfl), (Nat.le_of_ble_eq_true rfl)⟩ ⟨(Nat.le_of_ble_eq_true rfl), (Nat.le_of_ble_eq_true rfl)⟩ rfl rfl (Nat.le_of_ble_eq_true rfl) rfl rfl rfl rfl rfl (Nat.le_of_ble_eq_true rfl) rfl ?_
  refine zi_istore (ls' := _ :: _ :: _ :: _ :: some _ :: _) O d_Dia_cutEdge_17 rfl (by decide) rfl ?_
  refine zi_aload_n O d_Dia_cutEdge_19 rfl ?_
  refine zi_get O f_Dia_12 d_Dia_cutEdge_20 rfl rfl ?_
  refine zi_get O f_Dia_124 d_Dia_cutEdge_23 rfl rfl ?_
  refine zi_aload_n O d_Dia_cutEdge_26 rfl ?_
  refine zi_get O f_Dia_21 d_Dia_cutEdge_27 rfl rfl ?_
  refine zi_get O f_Dia_139 d_Dia_cutEdge_30 rfl rfl ?_
  refine zi_iload_n O d_Dia_cutEdge_33 rfl ?_
  refine zi_iald O d_Dia_cutEdge_34 rfl rfl (by omega) (Nat.le_of_ble_eq_true rfl) ?_
  rw [a3]
  refine zi_iload O d_Dia_cutEdge_35 rfl ?_
  refine zi_iast O d_Dia_cutEdge_37 rfl rfl (by omega) (Nat.le_of_ble_eq_true rfl) (by dsimp only [List.set]) ?_
  refine zi_new (ci := 6) (fs := [.int 0, .int 0, .int 0]) (ty := t_Cut) O d_Dia_cutEdge_38 rfl i_Cut t_Cut_ok z_cl_Dia_146 z_in_Cut z_ini_Cut (by decide) rfl (Nat.le_of_ble_eq_true rfl) (Nat.le_of_ble_eq_true rfl) rfl rfl rfl (Nat.le_of_ble_eq_true rfl) ?_
  dsimp only [List.cons_append, List.nil_append]
  refine zi_dup O d_Dia_cutEdge_41 rfl ?_
  refine zi_aload_n O d_Dia_cutEdge_42 rfl ?_
  refine zi_get O f_Dia_21 d_Dia_cutEdge_43 rfl rfl ?_
  refine zi_get O f_Dia_142 d_Dia_cutEdge_46 rfl rfl ?_
  refine zi_iload_n O d_Dia_cutEdge_49 rfl ?_
  refine zi_iald O d_Dia_cutEdge_50 rfl rfl (by omega) (Nat.le_of_ble_eq_true rfl) ?_
  rw [a1]
  refine zi_iload_n O d_Dia_cutEdge_51 rfl ?_
  refine zi_iload O d_Dia_cutEdge_52 rfl ?_
  refine zi_callI O [18] c_Dia_148 k_Cut_init (m_Cut_init (nI (el e)) (nI (fa LB a (2 * n))) (nI (fa LB (fa LB a (2 * n)) (2 * n)))) d_Dia_cutEdge_54 ⟨(Nat.le_of_ble_eq_true rfl), (Nat.le_of_ble_eq_true rfl)⟩ ⟨(Nat.le_of_ble_eq_true rfl), (Nat.le_of_ble_eq_true rfl)⟩ rfl (Nat.le_of_ble_eq_true rfl) rfl rfl rfl rfl rfl (Nat.le_of_ble_eq_true rfl) rfl (fun r h' hq hl => ?_)
  obtain ⟨rfl, rfl⟩ := hq
  refine zi_st (st' := [.ref 18]) rfl (zi_h (h' := diaH ci n (upd L (to_ e) (nI (fa LB (fa LB a (2 * n)) (2 * n)))) S' (2 * n) PL LB FR TO AT F OF RD ST pc co OC CE SL ++ [cutC (nI (el e)) (nI (fa LB a (2 * n))) (nI (fa LB (fa LB a (2 * n)) (2 * n)))]) rfl ?_)
  refine zi_aret O d_Dia_cutEdge_57 (Or.inl ⟨_, rfl⟩) (Nat.le_of_ble_eq_true rfl) (Nat.le_of_ble_eq_true rfl) (Nat.le_of_ble_eq_true rfl) ?_
  exact ⟨rfl, rfl⟩
end
