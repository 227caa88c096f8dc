/-! patterns of faces -/
/-- at how many ends an edge is upper; the crossing ahead of a dart -/
def ue (fr to_ : Nat → Nat) (e : Nat) : Nat := fr e % 2 + to_ e % 2
def ca (fr to_ : Nat → Nat) (d : Nat) : Nat := ar fr to_ d / 4
abbrev isFin (fr to_ : Nat → Nat) (a b : Nat) : Prop := ca fr to_ a ≠ ca fr to_ b ∧ ue fr to_ (a / 2) ≠ 1 ∧ ue fr to_ (b / 2) = 2 - ue fr to_ (a / 2)
abbrev isTri (fr to_ : Nat → Nat) (a b c : Nat) : Prop := (ca fr to_ a ≠ ca fr to_ b ∧ ca fr to_ b ≠ ca fr to_ c ∧ ca fr to_ a ≠ ca fr to_ c) ∧ ue fr to_ (a / 2) ≠ ue fr to_ (b / 2) ∧ ue fr to_ (b / 2) ≠ ue fr to_ (c / 2) ∧ ue fr to_ (a / 2) ≠ ue fr to_ (c / 2)
def pat (fr to_ : Nat → Nat) (nx : Nat → Nat) (l t : Nat) : Nat := if t = 1 then 1 else if t = 2 then (if isFin fr to_ l (nx l) then 2 else 0) else if t = 3 then (if isTri fr to_ l (nx l) (nx (nx l)) then 3 else 0) else 0
/-- face k begins with the dart l and has t darts -/
def FaceK (n : Nat) (nx : Nat → Nat) (k l t : Nat) : Prop := l < 4 * n ∧ 0 < t ∧ it nx t l = l ∧ (∀ i, 0 < i → i < t → it nx i l ≠ l) ∧ (FF nx (4 * n) (4 * n)).1 l = nI k ∧ ∀ j, j < l → (FF nx (4 * n) (4 * n)).1 j ≠ nI k
theorem faceK_uniq {n : Nat} {nx : Nat → Nat} {k l t l' t' : Nat} (h : FaceK n nx k l t) (h' : FaceK n nx k l' t') : l' = l ∧ t' = t := by
  obtain ⟨a1, a2, a3, a4, a5, a6⟩ := h
  obtain ⟨b1, b2, b3, b4, b5, b6⟩ := h'
  have : l' = l := by
    rcases Nat.lt_trichotomy l' l with c | c | c
    · exact absurd b5 (a6 l' c)
    · exact c
    · exact absurd a5 (b6 l c)
  subst this
  refine ⟨rfl, ?_⟩
  rcases Nat.lt_trichotomy t' t with c | c | c
  · exact absurd b3 (a4 t' b2 c)
  · exact c
  · exact absurd a3 (b4 t a2 c)
theorem rd_face {n : Nat} {nx : Nat → Nat} {RD ST : Nat → Int32} (h : RdOK (4 * n) nx (4 * n) RD ST) {k : Nat} (hk : k < (FF nx (4 * n) (4 * n)).2) : ∃ l t a, FaceK n nx k l t ∧ a + t ≤ 4 * n ∧ ST k = nI a ∧ ST (k + 1) = nI (a + t) ∧ ∀ i, i < t → RD (a + i) = nI (it nx i l) := by
  obtain ⟨st, h1, h2, h3, h4⟩ := h
  obtain ⟨l, t, a1, a2, a3, a4, a5, a6, a7, a8, a9⟩ := h4 k hk
  have := cs_le (FF nx (4 * n) (4 * n)).1 (4 * n)
  exact ⟨l, t, st k, ⟨a1, a2, a6, a7, a8, a9⟩, by omega, h1 k (by omega), by rw [h1 (k + 1) (by omega), a3], a5⟩
theorem ue_le (fr to_ : Nat → Nat) (e : Nat) : ue fr to_ e < 3 := by unfold ue; omega
section
variable {n : Nat} {lab : Nat → Nat} {S : Nat → Int32} {ci : Int32} {el fr to_ at_ oc : Nat → Nat} {h : List zE}
theorem m_Dia_crossingAhead (hD : Dia n lab S ci el fr to_ at_ oc h) (d : Nat) (hd : d < 4 * n) : zPu y_Dia_crossingAhead b_Dia_crossingAhead 2 (some .int) ⟨1, 0, 0, 24⟩ [.ref 0, .int (nI d)] h (.int (nI (ca fr to_ d))) := by
  obtain ⟨L, PL, LB, FR, TO, AT, OF, RD, ST, OC, CE, SL, rfl, hR, hG, hz, hE, hA, hRd, hO, hP, hOF⟩ := hD
  have hn := hR.1
  have h1 := ar_lt hE hd
  refine zMet_of (plainFor_of_name (by decide +kernel)) rfl (Nat.le_of_ble_eq_true rfl) (fun z1 z2 z3 z4 z5 z6 z7 z8 z9 z10 z11 z12 z13 z14 O hin => ?_)
  refine zi_ls (ls' := [some (.ref 0), some (.int (nI d))]) rfl ?_
  refine zi_aload_n O d_Dia_crossingAhead_0 rfl ?_
  refine zi_get O f_Dia_21 d_Dia_crossingAhead_1 rfl rfl ?_
  refine zi_iload_n O d_Dia_crossingAhead_4 rfl ?_
  refine zi_pureV O [4, 5, 6, 7, 8, 9] c_Dia_86 k_Edg_arrival (m_Edg_arrival (2 * n) PL LB FR TO AT d (by omega)) d_Dia_crossingAhead_5 ⟨(Nat.le_of_ble_eq_true rfl), (Nat.le_of_ble_eq_true rfl)⟩ ⟨(Nat.le_of_ble_eq_true rfl), (Nat.le_of_ble_eq_true rfl)⟩ rfl rfl (Nat.le_of_ble_eq_true rfl) rfl rfl rfl rfl rfl (Nat.le_of_ble_eq_true rfl) rfl ?_
  have e : (if d % 2 = 0 then TO (d / 2) else FR (d / 2)) = nI (ar fr to_ d) := by
    obtain ⟨-, q2, q3⟩ := hA.1 (d / 2) (by omega)
    unfold ar
    split
    · exact q3
    · exact q2
  rw [e]
  refine zi_iconstN O 2 d_Dia_crossingAhead_8 (by decide) ?_
  first | refine zi_ishrN O 2 2 d_Dia_crossingAhead_9 (by decide) (by omega) ?_ | refine zi_ishrN O 1 1 d_Dia_crossingAhead_9 (by decide) (by omega) ?_
  refine zi_iret O d_Dia_crossingAhead_10 (Nat.le_of_ble_eq_true rfl) (Nat.le_of_ble_eq_true rfl) (Nat.le_of_ble_eq_true rfl) ?_
  exact ⟨rfl, rfl⟩
theorem m_Dia_isFinger (hD : Dia n lab S ci el fr to_ at_ oc h) (a b : Nat) (ha : a < 4 * n) (hb : b < 4 * n) : zPu y_Dia_isFinger b_Dia_isFinger 4 (some .boolean) ⟨2, 0, 0, 60⟩ [.ref 0, .int (nI a), .int (nI b)] h (.int (zb (isFin fr to_ a b))) := by
  have hD' := hD
  obtain ⟨L, PL, LB, FR, TO, AT, OF, RD, ST, OC, CE, SL, rfl, hR, hG, hz, hE, hA, hRd, hO, hP, hOF⟩ := hD
  have hn := hR.1
  have h1 := hE.1 (a / 2) (by omega)
  have h2 := hE.1 (b / 2) (by omega)
  have h3 := hA.1 (a / 2) (by omega)
  have h4 := hA.1 (b / 2) (by omega)
  have h5 := ar_lt hE ha
  have h6 := ar_lt hE hb
  have h7 := ue_le fr to_ (a / 2)
  have h8 := ue_le fr to_ (b / 2)
  have c1 : ca fr to_ a < 20 := by unfold ca; omega
  have c2 : ca fr to_ b < 20 := by unfold ca; omega
  refine zMet_of (plainFor_of_name (by decide +kernel)) rfl (Nat.le_of_ble_eq_true rfl) (fun z1 z2 z3 z4 z5 z6 z7 z8 z9 z10 z11 z12 z13 z14 O hin => ?_)
  refine zi_ls (ls' := [some (.ref 0), some (.int (nI a)), some (.int (nI b)), none]) rfl ?_
  refine zi_aload_n O d_Dia_isFinger_0 rfl ?_
  refine zi_get O f_Dia_21 d_Dia_isFinger_1 rfl rfl ?_
  refine zi_iload_n O d_Dia_isFinger_4 rfl ?_
  refine zi_iconstN O 1 d_Dia_isFinger_5 (by decide) ?_
  first | refine zi_ishrN O 2 2 d_Dia_isFinger_6 (by decide) (by omega) ?_ | refine zi_ishrN O 1 1 d_Dia_isFinger_6 (by decide) (by omega) ?_
  refine zi_pureV O [4, 5, 6, 7, 8, 9] c_Dia_75 k_Edg_upperEnds (m_Edg_upperEnds (2 * n) PL LB FR TO AT (a / 2 ^ 1) (fr (a / 2)) (to_ (a / 2)) (by omega) h3.2.1 h3.2.2 (by omega) (by omega)) d_Dia_isFinger_7 ⟨(Nat.le_of_ble_eq_true rfl), (Nat.le_of_ble_eq_true rfl)⟩ ⟨(Nat.le_of_ble_eq_true rfl), (Nat.le_of_ble_eq_true rfl)⟩ rfl rfl (Nat.le_of_ble_eq_true rfl) rfl rfl rfl rfl rfl (Nat.le_of_ble_eq_true rfl) rfl ?_
  refine zi_st (st' := [.int (nI (ue fr to_ (a / 2)))]) rfl ?_
  refine zi_istore_n (ls' := _ :: _ :: _ :: some _ :: _) O d_Dia_isFinger_10 rfl (by decide) rfl ?_
  refine zi_aload_n O d_Dia_isFinger_11 rfl ?_
  refine zi_iload_n O d_Dia_isFinger_12 rfl ?_
  refine zi_selfP O c_Dia_78 k_Dia_crossingAhead (m_Dia_crossingAhead hD' a ha) d_Dia_isFinger_13 ⟨(Nat.le_of_ble_eq_true rfl), (Nat.le_of_ble_eq_true rfl)⟩ ⟨(Nat.le_of_ble_eq_true rfl), (Nat.le_of_ble_eq_true rfl)⟩ rfl rfl (Nat.le_of_ble_eq_true rfl) rfl rfl rfl (Nat.le_of_ble_eq_true rfl) rfl ?_
  refine zi_aload_n O d_Dia_isFinger_16 rfl ?_
  refine zi_iload_n O d_Dia_isFinger_17 rfl ?_
  refine zi_selfP O c_Dia_78 k_Dia_crossingAhead (m_Dia_crossingAhead hD' b hb) d_Dia_isFinger_18 ⟨(Nat.le_of_ble_eq_true rfl), (Nat.le_of_ble_eq_true rfl)⟩ ⟨(Nat.le_of_ble_eq_true rfl), (Nat.le_of_ble_eq_true rfl)⟩ rfl rfl (Nat.le_of_ble_eq_true rfl) rfl rfl rfl (Nat.le_of_ble_eq_true rfl) rfl ?_
  refine zi_icmp_eqN O 49 d_Dia_isFinger_21 (by decide) (by omega) (by omega) (fun c21 => ?_) (fun c21 => ?_)
  · refine zi_iconstN O 0 d_Dia_isFinger_49 (by decide) ?_
    refine zi_zret O d_Dia_isFinger_50 rfl (Nat.le_of_ble_eq_true rfl) (Nat.le_of_ble_eq_true rfl) (Nat.le_of_ble_eq_true rfl) ?_
    exact ⟨by rw [zb_f (fun z => z.1 c21)]; rfl, rfl⟩
  · refine zi_iload_n O d_Dia_isFinger_24 rfl ?_
    refine zi_iconstN O 1 d_Dia_isFinger_25 (by decide) ?_
    refine zi_icmp_eqN O 49 d_Dia_isFinger_26 (by decide) (by omega) (by omega) (fun c26 => ?_) (fun c26 => ?_)
    · refine zi_iconstN O 0 d_Dia_isFinger_49 (by decide) ?_
      refine zi_zret O d_Dia_isFinger_50 rfl (Nat.le_of_ble_eq_true rfl) (Nat.le_of_ble_eq_true rfl) (Nat.le_of_ble_eq_true rfl) ?_
      exact ⟨by rw [zb_f (fun z => z.2.1 c26)]; rfl, rfl⟩
    · refine zi_aload_n O d_Dia_isFinger_29 rfl ?_
      refine zi_get O f_Dia_21 d_Dia_isFinger_30 rfl rfl ?_
      refine zi_iload_n O d_Dia_isFinger_33 rfl ?_
      refine zi_iconstN O 1 d_Dia_isFinger_34 (by decide) ?_
      first | refine zi_ishrN O 2 2 d_Dia_isFinger_35 (by decide) (by omega) ?_ | refine zi_ishrN O 1 1 d_Dia_isFinger_35 (by decide) (by omega) ?_
      refine zi_pureV O [4, 5, 6, 7, 8, 9] c_Dia_75 k_Edg_upperEnds (m_Edg_upperEnds (2 * n) PL LB FR TO AT (b / 2 ^ 1) (fr (b / 2)) (to_ (b / 2)) (by omega) h4.2.1 h4.2.2 (by omega) (by omega)) d_Dia_isFinger_36 ⟨(Nat.le_of_ble_eq_true rfl), (Nat.le_of_ble_eq_true rfl)⟩ ⟨(Nat.le_of_ble_eq_true rfl), (Nat.le_of_ble_eq_true rfl)⟩ rfl rfl (Nat.le_of_ble_eq_true rfl) rfl rfl rfl rfl rfl (Nat.le_of_ble_eq_true rfl) rfl ?_
      refine zi_st (st' := [.int (nI (ue fr to_ (b / 2)))]) rfl ?_
      refine zi_iconstN O 2 d_Dia_isFinger_39 (by decide) ?_
      refine zi_iload_n O d_Dia_isFinger_40 rfl ?_
      first | refine zi_isubN O d_Dia_isFinger_41 (by omega) ?_ | refine zi_isub O d_Dia_isFinger_41 ?_
      refine zi_icmp_neN O 49 d_Dia_isFinger_42 (by decide) (by omega) (by omega) (fun c42 => ?_) (fun c42 => ?_)
      · refine zi_iconstN O 0 d_Dia_isFinger_49 (by decide) ?_
        refine zi_zret O d_Dia_isFinger_50 rfl (Nat.le_of_ble_eq_true rfl) (Nat.le_of_ble_eq_true rfl) (Nat.le_of_ble_eq_true rfl) ?_
        exact ⟨by rw [zb_f (fun z => c42 z.2.2)]; rfl, rfl⟩
      · refine zi_iconstN O 1 d_Dia_isFinger_45 (by decide) ?_
        refine zi_goto O 50 d_Dia_isFinger_46 (by decide) ?_
        refine zi_zret O d_Dia_isFinger_50 rfl (Nat.le_of_ble_eq_true rfl) (Nat.le_of_ble_eq_true rfl) (Nat.le_of_ble_eq_true rfl) ?_
        exact ⟨by rw [zb_t ⟨c21, c26, c42⟩]; rfl, rfl⟩
set_option maxHeartbeats 1000000 in
theorem m_Dia_isTriangle (hD : Dia n lab S ci el fr to_ at_ oc h) (k l : Nat) (hk : k < (FF (nxD fr to_ at_) (4 * n) (4 * n)).2) (hF : FaceK n (nxD fr to_ at_) k l 3) : zPu y_Dia_isTriangle b_Dia_isTriangle 6 (some .boolean) ⟨2, 0, 0, 60⟩ [.ref 0, .int (nI k)] h (.int (zb (isTri fr to_ l (nxD fr to_ at_ l) (nxD fr to_ at_ (nxD fr to_ at_ l))))) := by
  have hD' := hD
  obtain ⟨L, PL, LB, FR, TO, AT, OF, RD, ST, OC, CE, SL, rfl, hR, hG, hz, hE, hA, hRd, hO, hP, hOF⟩ := hD
  have hn := hR.1
  have hFF := ff_le (by omega) (perm_D hE) (Nat.le_refl (4 * n))
  obtain ⟨l', t', a, hF', ha, hs1, hs2, hr⟩ := rd_face hRd hk
  obtain ⟨rfl, rfl⟩ := faceK_uniq hF hF'
  have hl := fun i => it_lt (perm_D hE) hF.1 i
  have b0 : ∀ i, i < 3 → ∃ d, d < 4 * n ∧ RD (a + i) = nI d ∧ d = it (nxD fr to_ at_) i l' := fun i hi => ⟨_, hl i, hr i hi, rfl⟩
  obtain ⟨d0, d0l, d0r, d0e⟩ := b0 0 (by omega)
  obtain ⟨d1, d1l, d1r, d1e⟩ := b0 1 (by omega)
  obtain ⟨d2, d2l, d2r, d2e⟩ := b0 2 (by omega)
  rw [show nxD fr to_ at_ (nxD fr to_ at_ l') = d2 from d2e.symm, show nxD fr to_ at_ l' = d1 from d1e.symm, show l' = d0 from d0e.symm]
  have x0 := hE.1 (d0 / 2) (by omega)
  have x1 := hE.1 (d1 / 2) (by omega)
  have x2 := hE.1 (d2 / 2) (by omega)
  have y0 := hA.1 (d0 / 2) (by omega)
  have y1 := hA.1 (d1 / 2) (by omega)
  have y2 := hA.1 (d2 / 2) (by omega)
  have c0 : ca fr to_ d0 < 20 := by have := ar_lt hE d0l; unfold ca; omega
  have c1 : ca fr to_ d1 < 20 := by have := ar_lt hE d1l; unfold ca; omega
  have c2 : ca fr to_ d2 < 20 := by have := ar_lt hE d2l; unfold ca; omega
  refine zMet_of (plainFor_of_name (by decide +kernel)) rfl (Nat.le_of_ble_eq_true rfl) (fun z1 z2 z3 z4 z5 z6 z7 z8 z9 z10 z11 z12 z13 z14 O hin => ?_)
  refine zi_ls (ls' := [some (.ref 0), some (.int (nI k)), none, none, none, none]) rfl ?_
  refine zi_iconstN O 0 d_Dia_isTriangle_0 (by decide) ?_
  refine zi_istore_n (ls' := _ :: _ :: some _ :: _) O d_Dia_isTriangle_1 rfl (by decide) rfl ?_
  refine zi_iconstN O 0 d_Dia_isTriangle_2 (by decide) ?_
  refine zi_istore_n (ls' := _ :: _ :: _ :: some _ :: _) O d_Dia_isTriangle_3 rfl (by decide) rfl ?_
  refine zi_iconstN O 0 d_Dia_isTriangle_4 (by decide) ?_
  refine zi_istore (ls' := _ :: _ :: _ :: _ :: some _ :: _) O d_Dia_isTriangle_5 rfl (by decide) rfl ?_
  refine zi_iload O d_Dia_isTriangle_7 rfl ?_
  refine zi_iconstN O 3 d_Dia_isTriangle_9 (by decide) ?_
  refine zi_icmp_geN O 58 d_Dia_isTriangle_10 (by decide) (by omega) (by omega) (fun c10 => ?_) (fun c10 => ?_)
  · omega
  · refine zi_aload_n O d_Dia_isTriangle_13 rfl ?_
    refine zi_get O f_Dia_28 d_Dia_isTriangle_14 rfl rfl ?_
    refine zi_iload_n O d_Dia_isTriangle_17 rfl ?_
    refine zi_iload O d_Dia_isTriangle_18 rfl ?_
    refine zi_pureV O [10, 11, 12, 13] c_Dia_63 k_Fac_dart (m_Fac_dart (FF (nxD fr to_ at_) (4 * n) (4 * n)).2 OF RD ST k 0 a d0 (by omega) hs1 (by omega) d0r) d_Dia_isTriangle_20 ⟨(Nat.le_of_ble_eq_true rfl), (Nat.le_of_ble_eq_true rfl)⟩ ⟨(Nat.le_of_ble_eq_true rfl), (Nat.le_of_ble_eq_true rfl)⟩ rfl rfl (Nat.le_of_ble_eq_true rfl) rfl rfl rfl rfl rfl (Nat.le_of_ble_eq_true rfl) rfl ?_
    refine zi_istore (ls' := _ :: _ :: _ :: _ :: _ :: some _ :: _) O d_Dia_isTriangle_23 rfl (by decide) rfl ?_
    refine zi_iload_n O d_Dia_isTriangle_25 rfl ?_
    refine zi_iconstN O 1 d_Dia_isTriangle_26 (by decide) ?_
    refine zi_aload_n O d_Dia_isTriangle_27 rfl ?_
    refine zi_iload O d_Dia_isTriangle_28 rfl ?_
    refine zi_selfP O c_Dia_78 k_Dia_crossingAhead (m_Dia_crossingAhead hD' d0 d0l) d_Dia_isTriangle_30 ⟨(Nat.le_of_ble_eq_true rfl), (Nat.le_of_ble_eq_true rfl)⟩ ⟨(Nat.le_of_ble_eq_true rfl), (Nat.le_of_ble_eq_true rfl)⟩ rfl rfl (Nat.le_of_ble_eq_true rfl) rfl rfl rfl (Nat.le_of_ble_eq_true rfl) rfl ?_
    refine zi_ishl O d_Dia_isTriangle_33 ?_
    refine zi_ior O d_Dia_isTriangle_34 ?_
    refine zi_istore_n (ls' := _ :: _ :: some _ :: _) O d_Dia_isTriangle_35 rfl (by decide) rfl ?_
    refine zi_iload_n O d_Dia_isTriangle_36 rfl ?_
    refine zi_iconstN O 1 d_Dia_isTriangle_37 (by decide) ?_
    refine zi_aload_n O d_Dia_isTriangle_38 rfl ?_
    refine zi_get O f_Dia_21 d_Dia_isTriangle_39 rfl rfl ?_
    refine zi_iload O d_Dia_isTriangle_42 rfl ?_
    refine zi_iconstN O 1 d_Dia_isTriangle_44 (by decide) ?_
    first | refine zi_ishrN O 2 2 d_Dia_isTriangle_45 (by decide) (by omega) ?_ | refine zi_ishrN O 1 1 d_Dia_isTriangle_45 (by decide) (by omega) ?_
    refine zi_pureV O [4, 5, 6, 7, 8, 9] c_Dia_75 k_Edg_upperEnds (m_Edg_upperEnds (2 * n) PL LB FR TO AT (d0 / 2 ^ 1) (fr (d0 / 2)) (to_ (d0 / 2)) (by omega) y0.2.1 y0.2.2 (by omega) (by omega)) d_Dia_isTriangle_46 ⟨(Nat.le_of_ble_eq_true rfl), (Nat.le_of_ble_eq_true rfl)⟩ ⟨(Nat.le_of_ble_eq_true rfl), (Nat.le_of_ble_eq_true rfl)⟩ rfl rfl (Nat.le_of_ble_eq_true rfl) rfl rfl rfl rfl rfl (Nat.le_of_ble_eq_true rfl) rfl ?_
    refine zi_ishl O d_Dia_isTriangle_49 ?_
    refine zi_ior O d_Dia_isTriangle_50 ?_
    refine zi_istore_n (ls' := _ :: _ :: _ :: some _ :: _) O d_Dia_isTriangle_51 rfl (by decide) rfl ?_
    refine zi_iincN (ls' := _ :: _ :: _ :: _ :: some _ :: _) O 1 d_Dia_isTriangle_52 rfl (by decide) rfl (by decide) rfl ?_
    refine zi_goto O 7 d_Dia_isTriangle_55 (by decide) ?_
    refine zi_ls (ls' := [some (.ref 0), some (.int (nI k)), some (.int (nI 0 ||| bit (ca fr to_ d0))), some (.int (nI 0 ||| bit (ue fr to_ (d0 / 2)))), some (.int (nI 1)), some (.int (nI d0))]) rfl ?_
    refine zi_iload O d_Dia_isTriangle_7 rfl ?_
    refine zi_iconstN O 3 d_Dia_isTriangle_9 (by decide) ?_
    refine zi_icmp_geN O 58 d_Dia_isTriangle_10 (by decide) (by omega) (by omega) (fun c10 => ?_) (fun c10 => ?_)
    · omega
    · refine zi_aload_n O d_Dia_isTriangle_13 rfl ?_
      refine zi_get O f_Dia_28 d_Dia_isTriangle_14 rfl rfl ?_
      refine zi_iload_n O d_Dia_isTriangle_17 rfl ?_
      refine zi_iload O d_Dia_isTriangle_18 rfl ?_
      refine zi_pureV O [10, 11, 12, 13] c_Dia_63 k_Fac_dart (m_Fac_dart (FF (nxD fr to_ at_) (4 * n) (4 * n)).2 OF RD ST k 1 a d1 (by omega) hs1 (by omega) d1r) d_Dia_isTriangle_20 ⟨(Nat.le_of_ble_eq_true rfl), (Nat.le_of_ble_eq_true rfl)⟩ ⟨(Nat.le_of_ble_eq_true rfl), (Nat.le_of_ble_eq_true rfl)⟩ rfl rfl (Nat.le_of_ble_eq_true rfl) rfl rfl rfl rfl rfl (Nat.le_of_ble_eq_true rfl) rfl ?_
      refine zi_istore (ls' := _ :: _ :: _ :: _ :: _ :: some _ :: _) O d_Dia_isTriangle_23 rfl (by decide) rfl ?_
      refine zi_iload_n O d_Dia_isTriangle_25 rfl ?_
      refine zi_iconstN O 1 d_Dia_isTriangle_26 (by decide) ?_
      refine zi_aload_n O d_Dia_isTriangle_27 rfl ?_
      refine zi_iload O d_Dia_isTriangle_28 rfl ?_
      refine zi_selfP O c_Dia_78 k_Dia_crossingAhead (m_Dia_crossingAhead hD' d1 d1l) d_Dia_isTriangle_30 ⟨(Nat.le_of_ble_eq_true rfl), (Nat.le_of_ble_eq_true rfl)⟩ ⟨(Nat.le_of_ble_eq_true rfl), (Nat.le_of_ble_eq_true rfl)⟩ rfl rfl (Nat.le_of_ble_eq_true rfl) rfl rfl rfl (Nat.le_of_ble_eq_true rfl) rfl ?_
      refine zi_ishl O d_Dia_isTriangle_33 ?_
      refine zi_ior O d_Dia_isTriangle_34 ?_
      refine zi_istore_n (ls' := _ :: _ :: some _ :: _) O d_Dia_isTriangle_35 rfl (by decide) rfl ?_
      refine zi_iload_n O d_Dia_isTriangle_36 rfl ?_
      refine zi_iconstN O 1 d_Dia_isTriangle_37 (by decide) ?_
      refine zi_aload_n O d_Dia_isTriangle_38 rfl ?_
      refine zi_get O f_Dia_21 d_Dia_isTriangle_39 rfl rfl ?_
      refine zi_iload O d_Dia_isTriangle_42 rfl ?_
      refine zi_iconstN O 1 d_Dia_isTriangle_44 (by decide) ?_
      first | refine zi_ishrN O 2 2 d_Dia_isTriangle_45 (by decide) (by omega) ?_ | refine zi_ishrN O 1 1 d_Dia_isTriangle_45 (by decide) (by omega) ?_
      refine zi_pureV O [4, 5, 6, 7, 8, 9] c_Dia_75 k_Edg_upperEnds (m_Edg_upperEnds (2 * n) PL LB FR TO AT (d1 / 2 ^ 1) (fr (d1 / 2)) (to_ (d1 / 2)) (by omega) y1.2.1 y1.2.2 (by omega) (by omega)) d_Dia_isTriangle_46 ⟨(Nat.le_of_ble_eq_true rfl), (Nat.le_of_ble_eq_true rfl)⟩ ⟨(Nat.le_of_ble_eq_true rfl), (Nat.le_of_ble_eq_true rfl)⟩ rfl rfl (Nat.le_of_ble_eq_true rfl) rfl rfl rfl rfl rfl (Nat.le_of_ble_eq_true rfl) rfl ?_
      refine zi_ishl O d_Dia_isTriangle_49 ?_
      refine zi_ior O d_Dia_isTriangle_50 ?_
      refine zi_istore_n (ls' := _ :: _ :: _ :: some _ :: _) O d_Dia_isTriangle_51 rfl (by decide) rfl ?_
      refine zi_iincN (ls' := _ :: _ :: _ :: _ :: some _ :: _) O 1 d_Dia_isTriangle_52 rfl (by decide) rfl (by decide) rfl ?_
      refine zi_goto O 7 d_Dia_isTriangle_55 (by decide) ?_
      refine zi_ls (ls' := [some (.ref 0), some (.int (nI k)), some (.int ((nI 0 ||| bit (ca fr to_ d0)) ||| bit (ca fr to_ d1))), some (.int ((nI 0 ||| bit (ue fr to_ (d0 / 2))) ||| bit (ue fr to_ (d1 / 2)))), some (.int (nI 2)), some (.int (nI d1))]) rfl ?_
      refine zi_iload O d_Dia_isTriangle_7 rfl ?_
      refine zi_iconstN O 3 d_Dia_isTriangle_9 (by decide) ?_
      refine zi_icmp_geN O 58 d_Dia_isTriangle_10 (by decide) (by omega) (by omega) (fun c10 => ?_) (fun c10 => ?_)
      · omega
      · refine zi_aload_n O d_Dia_isTriangle_13 rfl ?_
        refine zi_get O f_Dia_28 d_Dia_isTriangle_14 rfl rfl ?_
        refine zi_iload_n O d_Dia_isTriangle_17 rfl ?_
        refine zi_iload O d_Dia_isTriangle_18 rfl ?_
        refine zi_pureV O [10, 11, 12, 13] c_Dia_63 k_Fac_dart (m_Fac_dart (FF (nxD fr to_ at_) (4 * n) (4 * n)).2 OF RD ST k 2 a d2 (by omega) hs1 (by omega) d2r) d_Dia_isTriangle_20 ⟨(Nat.le_of_ble_eq_true rfl), (Nat.le_of_ble_eq_true rfl)⟩ ⟨(Nat.le_of_ble_eq_true rfl), (Nat.le_of_ble_eq_true rfl)⟩ rfl rfl (Nat.le_of_ble_eq_true rfl) rfl rfl rfl rfl rfl (Nat.le_of_ble_eq_true rfl) rfl ?_
        refine zi_istore (ls' := _ :: _ :: _ :: _ :: _ :: some _ :: _) O d_Dia_isTriangle_23 rfl (by decide) rfl ?_
        refine zi_iload_n O d_Dia_isTriangle_25 rfl ?_
        refine zi_iconstN O 1 d_Dia_isTriangle_26 (by decide) ?_
        refine zi_aload_n O d_Dia_isTriangle_27 rfl ?_
        refine zi_iload O d_Dia_isTriangle_28 rfl ?_
        refine zi_selfP O c_Dia_78 k_Dia_crossingAhead (m_Dia_crossingAhead hD' d2 d2l) d_Dia_isTriangle_30 ⟨(Nat.le_of_ble_eq_true rfl), (Nat.le_of_ble_eq_true rfl)⟩ ⟨(Nat.le_of_ble_eq_true rfl), (Nat.le_of_ble_eq_true rfl)⟩ rfl rfl (Nat.le_of_ble_eq_true rfl) rfl rfl rfl (Nat.le_of_ble_eq_true rfl) rfl ?_
        refine zi_ishl O d_Dia_isTriangle_33 ?_
        refine zi_ior O d_Dia_isTriangle_34 ?_
        refine zi_istore_n (ls' := _ :: _ :: some _ :: _) O d_Dia_isTriangle_35 rfl (by decide) rfl ?_
        refine zi_iload_n O d_Dia_isTriangle_36 rfl ?_
        refine zi_iconstN O 1 d_Dia_isTriangle_37 (by decide) ?_
        refine zi_aload_n O d_Dia_isTriangle_38 rfl ?_
        refine zi_get O f_Dia_21 d_Dia_isTriangle_39 rfl rfl ?_
        refine zi_iload O d_Dia_isTriangle_42 rfl ?_
        refine zi_iconstN O 1 d_Dia_isTriangle_44 (by decide) ?_
        first | refine zi_ishrN O 2 2 d_Dia_isTriangle_45 (by decide) (by omega) ?_ | refine zi_ishrN O 1 1 d_Dia_isTriangle_45 (by decide) (by omega) ?_
        refine zi_pureV O [4, 5, 6, 7, 8, 9] c_Dia_75 k_Edg_upperEnds (m_Edg_upperEnds (2 * n) PL LB FR TO AT (d2 / 2 ^ 1) (fr (d2 / 2)) (to_ (d2 / 2)) (by omega) y2.2.1 y2.2.2 (by omega) (by omega)) d_Dia_isTriangle_46 ⟨(Nat.le_of_ble_eq_true rfl), (Nat.le_of_ble_eq_true rfl)⟩ ⟨(Nat.le_of_ble_eq_true rfl), (Nat.le_of_ble_eq_true rfl)⟩ rfl rfl (Nat.le_of_ble_eq_true rfl) rfl rfl rfl rfl rfl (Nat.le_of_ble_eq_true rfl) rfl ?_
        refine zi_ishl O d_Dia_isTriangle_49 ?_
        refine zi_ior O d_Dia_isTriangle_50 ?_
        refine zi_istore_n (ls' := _ :: _ :: _ :: some _ :: _) O d_Dia_isTriangle_51 rfl (by decide) rfl ?_
        refine zi_iincN (ls' := _ :: _ :: _ :: _ :: some _ :: _) O 1 d_Dia_isTriangle_52 rfl (by decide) rfl (by decide) rfl ?_
        refine zi_goto O 7 d_Dia_isTriangle_55 (by decide) ?_
        refine zi_ls (ls' := [some (.ref 0), some (.int (nI k)), some (.int (((nI 0 ||| bit (ca fr to_ d0)) ||| bit (ca fr to_ d1)) ||| bit (ca fr to_ d2))), some (.int (((nI 0 ||| bit (ue fr to_ (d0 / 2))) ||| bit (ue fr to_ (d1 / 2))) ||| bit (ue fr to_ (d2 / 2)))), some (.int (nI 3)), some (.int (nI d2))]) rfl ?_
        refine zi_iload O d_Dia_isTriangle_7 rfl ?_
        refine zi_iconstN O 3 d_Dia_isTriangle_9 (by decide) ?_
        refine zi_icmp_geN O 58 d_Dia_isTriangle_10 (by decide) (by omega) (by omega) (fun c10 => ?_) (fun c10 => ?_)
        · refine zi_iload_n O d_Dia_isTriangle_58 rfl ?_
          refine zi_pureS O [] c_Dia_81 k_Int_bitCount (m_Int_bitCount (((nI 0 ||| bit (ca fr to_ d0)) ||| bit (ca fr to_ d1)) ||| bit (ca fr to_ d2))) d_Dia_isTriangle_59 ⟨(Nat.le_of_ble_eq_true rfl), (Nat.le_of_ble_eq_true rfl)⟩ ⟨(Nat.le_of_ble_eq_true rfl), (Nat.le_of_ble_eq_true rfl)⟩ rfl (Nat.le_of_ble_eq_true rfl) rfl rfl rfl rfl rfl (Nat.le_of_ble_eq_true rfl) rfl ?_
          refine zi_iconstN O 3 d_Dia_isTriangle_62 (by decide) ?_
          have q1 := bc_three _ c0 _ c1 _ c2
          have q2 := ht_three _ (ue_le fr to_ (d0 / 2)) _ (ue_le fr to_ (d1 / 2)) _ (ue_le fr to_ (d2 / 2))
          refine zi_icmp_ne O 76 d_Dia_isTriangle_63 (by decide) (fun c63 => ?_) (fun c63 => ?_)
          · refine zi_iconstN O 0 d_Dia_isTriangle_76 (by decide) ?_
            refine zi_zret O d_Dia_isTriangle_77 rfl (Nat.le_of_ble_eq_true rfl) (Nat.le_of_ble_eq_true rfl) (Nat.le_of_ble_eq_true rfl) ?_
            exact ⟨by rw [zb_f (fun z => c63 (q1.mpr z.1))]; rfl, rfl⟩
          · refine zi_iload_n O d_Dia_isTriangle_66 rfl ?_
            refine zi_bipushN O 7 d_Dia_isTriangle_67 (by decide) ?_
            refine zi_icmp_ne O 76 d_Dia_isTriangle_69 (by decide) (fun c69 => ?_) (fun c69 => ?_)
            · refine zi_iconstN O 0 d_Dia_isTriangle_76 (by decide) ?_
              refine zi_zret O d_Dia_isTriangle_77 rfl (Nat.le_of_ble_eq_true rfl) (Nat.le_of_ble_eq_true rfl) (Nat.le_of_ble_eq_true rfl) ?_
              exact ⟨by rw [zb_f (fun z => c69 (q2.mpr z.2))]; rfl, rfl⟩
            · refine zi_iconstN O 1 d_Dia_isTriangle_72 (by decide) ?_
              refine zi_goto O 77 d_Dia_isTriangle_73 (by decide) ?_
              refine zi_zret O d_Dia_isTriangle_77 rfl (Nat.le_of_ble_eq_true rfl) (Nat.le_of_ble_eq_true rfl) (Nat.le_of_ble_eq_true rfl) ?_
              exact ⟨by rw [zb_t ⟨q1.mp c63, q2.mp c69⟩]; rfl, rfl⟩
        · omega
end
