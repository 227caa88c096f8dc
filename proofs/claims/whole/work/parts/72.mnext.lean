/-! The model: next, turn, rowOf, components -/
theorem el_lt {n : Nat} {lab : Nat → Nat} {S L : Nat → Int32} {el fr to_ at_ : Nat → Nat} (hR : RowOK n L lab) (h : Ed n lab S el fr to_ at_) {e : Nat} (he : e < 2 * n) : 1 ≤ el e ∧ el e ≤ 9999 := by
  obtain ⟨f1, -, f3, -⟩ := h.1 e he
  have := (hR.2 _ f1).2
  rw [f3] at this
  exact this
/-- a dart as the model writes it -/
def dl (el : Nat → Nat) (d : Nat) : Nat := 2 * el (d / 2) + d % 2
theorem dl_div (el : Nat → Nat) (d : Nat) : dl el d / 2 = el (d / 2) := by unfold dl; omega
theorem dl_mod (el : Nat → Nat) (d : Nat) : dl el d % 2 = d % 2 := by unfold dl; omega
section
variable {put n oN labs closed faces sides : Nat} {wrong ci oC : Int32} {pS pL S L oS oL row fresh piece comp fof side free arnd : Nat → Int32}
theorem m_Mod_fr {lab el fr to_ at_ : Nat → Nat} (hR : RowOK n L lab) (hG : Sg n S) (h : Ed n lab S el fr to_ at_) {e : Nat} (he : e < 2 * n) : zPu y_Mod_placeOf b_Mod_placeOf 5 (some .int) ⟨1, 0, 0, 24⟩ [.ref 0, .int (nI (el e)), .int (nI 1)] (mh put wrong pS pL n ci oN oC S L oS oL labs row fresh piece closed faces comp fof sides side free arnd) (.int (nI (fr e))) := by
  have h1 := el_lt hR h he
  have := m_Mod_placeOf (put := put) (oN := oN) (labs := labs) (closed := closed) (faces := faces) (sides := sides) (wrong := wrong) (ci := ci) (oC := oC) (pS := pS) (pL := pL) (oS := oS) (oL := oL) (row := row) (fresh := fresh) (piece := piece) (comp := comp) (fof := fof) (side := side) (free := free) (arnd := arnd) lab hR hG (el e) 1 (by omega)
  rw [plc_fr h he] at this
  exact this
theorem m_Mod_to {lab el fr to_ at_ : Nat → Nat} (hR : RowOK n L lab) (hG : Sg n S) (h : Ed n lab S el fr to_ at_) {e : Nat} (he : e < 2 * n) : zPu y_Mod_placeOf b_Mod_placeOf 5 (some .int) ⟨1, 0, 0, 24⟩ [.ref 0, .int (nI (el e)), .int (nI 0)] (mh put wrong pS pL n ci oN oC S L oS oL labs row fresh piece closed faces comp fof sides side free arnd) (.int (nI (to_ e))) := by
  have h1 := el_lt hR h he
  have := m_Mod_placeOf (put := put) (oN := oN) (labs := labs) (closed := closed) (faces := faces) (sides := sides) (wrong := wrong) (ci := ci) (oC := oC) (pS := pS) (pL := pL) (oS := oS) (oL := oL) (row := row) (fresh := fresh) (piece := piece) (comp := comp) (fof := fof) (side := side) (free := free) (arnd := arnd) lab hR hG (el e) 0 (by omega)
  rw [plc_to h he] at this
  exact this
theorem m_Mod_next {lab el fr to_ at_ : Nat → Nat} (hR : RowOK n L lab) (hG : Sg n S) (h : Ed n lab S el fr to_ at_) {e : Nat} (he : e < 2 * n) : zPu y_Mod_next b_Mod_next 2 (some .int) ⟨2, 0, 0, 50⟩ [.ref 0, .int (nI (el e))] (mh put wrong pS pL n ci oN oC S L oS oL labs row fresh piece closed faces comp fof sides side free arnd) (.int (nI (el (nxE to_ at_ e)))) := by
  have hn := hR.1
  have h1 := (h.1 e he).2.1
  have h2 := ac_lt h1
  refine zMet_of (plainFor_of_name (by decide +kernel)) rfl (Nat.le_of_ble_eq_true rfl) (fun z1 z2 z3 z4 z5 z6 z7 z8 z9 z10 z11 z12 z13 z14 O hin => ?_)
  refine zi_ls (ls' := [some (.ref 0), some (.int (nI (el e)))]) rfl ?_
  refine zi_aload_n O d_Mod_next_0 rfl ?_
  refine zi_get O f_Mod_23 d_Mod_next_1 rfl rfl ?_
  refine zi_aload_n O d_Mod_next_4 rfl ?_
  refine zi_iload_n O d_Mod_next_5 rfl ?_
  refine zi_iconstN O 0 d_Mod_next_6 (by decide) ?_
  refine zi_selfP O c_Mod_66 k_Mod_placeOf (m_Mod_to hR hG h he) d_Mod_next_7 ⟨(Nat.le_of_ble_eq_true rfl), (Nat.le_of_ble_eq_true rfl)⟩ ⟨(Nat.le_of_ble_eq_true rfl), (Nat.le_of_ble_eq_true rfl)⟩ rfl rfl (Nat.le_of_ble_eq_true rfl) rfl rfl rfl (Nat.le_of_ble_eq_true rfl) rfl ?_
  refine zi_pureS O [] c_Mod_70 k_Mod_across (m_Mod_across (to_ e) (by omega)) d_Mod_next_10 ⟨(Nat.le_of_ble_eq_true rfl), (Nat.le_of_ble_eq_true rfl)⟩ ⟨(Nat.le_of_ble_eq_true rfl), (Nat.le_of_ble_eq_true rfl)⟩ rfl (Nat.le_of_ble_eq_true rfl) rfl rfl rfl rfl rfl (Nat.le_of_ble_eq_true rfl) rfl ?_
  refine zi_iald O d_Mod_next_13 rfl rfl (by omega) (Nat.le_of_ble_eq_true rfl) ?_
  rw [(hR.2 _ h2).1]
  refine zi_iret O d_Mod_next_14 (Nat.le_of_ble_eq_true rfl) (Nat.le_of_ble_eq_true rfl) (Nat.le_of_ble_eq_true rfl) ?_
  exact ⟨by rw [lab_at h h2]; rfl, rfl⟩
theorem m_Mod_turn {lab el fr to_ at_ : Nat → Nat} (hR : RowOK n L lab) (hG : Sg n S) (h : Ed n lab S el fr to_ at_) {d D : Nat} (hd : d < 4 * n) (hD : D = dl el d) : zPu y_Mod_turn b_Mod_turn 4 (some .int) ⟨2, 0, 0, 50⟩ [.ref 0, .int (nI D)] (mh put wrong pS pL n ci oN oC S L oS oL labs row fresh piece closed faces comp fof sides side free arnd) (.int (nI (dl el (nxD fr to_ at_ d)))) := by
  have hn := hR.1
  have hD1 : D / 2 = el (d / 2) := by rw [hD]; exact dl_div el d
  have hD2 : D % 2 = d % 2 := by rw [hD]; exact dl_mod el d
  have he : d / 2 < 2 * n := by omega
  have hel := el_lt hR h he
  have hDlt : D < 20000 := by omega
  have h1 := ar_lt h hd
  have h2 := rot_lt h1
  have h3 := hR.2 _ h2
  have h4 := lab_at h h2
  have hlv : dl el (nxD fr to_ at_ d) = 2 * el (at_ (rot (ar fr to_ d))) + (if fr (at_ (rot (ar fr to_ d))) = rot (ar fr to_ d) then 0 else 1) := by
    unfold nxD lv dl
    split <;> congr 1 <;> first | omega | (congr 2; omega)
  have hfr : fr (at_ (rot (ar fr to_ d))) = rot (ar fr to_ d) ↔ ¬ gi S (rot (ar fr to_ d)) := by
    constructor
    · intro z hg
      rw [← z] at hg
      exact (h.1 _ (h.2.2 _ h2).1).2.2.2.2.1 hg
    · exact ed_fr_of h h2
  rw [hlv]
  have tail : ∀ {z1 z2 z3 z4 z5 z6 z7 z8 z9 z10 z11 z12 z13 z14}, zOK y_Mod_turn.cls b_Mod_turn 4 (some .int) ⟨2, 0, 0, 50⟩ z1 z4 z5 z6 z7 z9 z10 z11 z12 z13 → zG z1 z2 z3 z4 z5 z6 z7 z8 z9 z10 z11 z12 z13 z14 15 4 (fun r h' => r = some (.int (nI (2 * el (at_ (rot (ar fr to_ d))) + (if fr (at_ (rot (ar fr to_ d))) = rot (ar fr to_ d) then 0 else 1)))) ∧ h' = (mh put wrong pS pL n ci oN oC S L oS oL labs row fresh piece closed faces comp fof sides side free arnd)) 0 0 0 0 19 [some (.ref 0), some (.int (nI D)), none, none] [.int (nI (ar fr to_ d))] (mh put wrong pS pL n ci oN oC S L oS oL labs row fresh piece closed faces comp fof sides side free arnd) := by
    intro z1 z2 z3 z4 z5 z6 z7 z8 z9 z10 z11 z12 z13 z14 O
    refine zi_istore_n (ls' := _ :: _ :: some _ :: _) O d_Mod_turn_19 rfl (by decide) rfl ?_
    refine zi_iload_n O d_Mod_turn_20 rfl ?_
    refine zi_iconstN O 4 d_Mod_turn_21 (by decide) ?_
    refine zi_idivN O d_Mod_turn_22 (by omega) (by omega) (by omega) ?_
    refine zi_iconstN O 4 d_Mod_turn_23 (by decide) ?_
    first | refine zi_imulN O d_Mod_turn_24 ?_ | refine zi_imul O d_Mod_turn_24 ?_
    refine zi_iload_n O d_Mod_turn_25 rfl ?_
    refine zi_iconstN O 3 d_Mod_turn_26 (by decide) ?_
    first | refine zi_iaddN O d_Mod_turn_27 ?_ | refine zi_iadd O d_Mod_turn_27 ?_
    refine zi_iconstN O 4 d_Mod_turn_28 (by decide) ?_
    refine zi_iremN O d_Mod_turn_29 (by omega) (by omega) (by omega) ?_
    first | refine zi_iaddN O d_Mod_turn_30 ?_ | refine zi_iadd O d_Mod_turn_30 ?_
    refine zi_istore_n (ls' := _ :: _ :: _ :: some _ :: _) O d_Mod_turn_31 rfl (by decide) rfl ?_
    rw [show ar fr to_ d / 4 * 4 + (ar fr to_ d + 3) % 4 = rot (ar fr to_ d) by unfold rot; omega]
    refine zi_iconstN O 2 d_Mod_turn_32 (by decide) ?_
    refine zi_aload_n O d_Mod_turn_33 rfl ?_
    refine zi_get O f_Mod_23 d_Mod_turn_34 rfl rfl ?_
    refine zi_iload_n O d_Mod_turn_37 rfl ?_
    refine zi_iald O d_Mod_turn_38 rfl rfl (by omega) (Nat.le_of_ble_eq_true rfl) ?_
    rw [h3.1]
    first | refine zi_imulN O d_Mod_turn_39 ?_ | refine zi_imul O d_Mod_turn_39 ?_
    refine zi_aload_n O d_Mod_turn_40 rfl ?_
    refine zi_iload_n O d_Mod_turn_41 rfl ?_
    refine zi_selfP O c_Mod_62 k_Mod_isOut (m_Mod_isOut hn hG _ h2) d_Mod_turn_42 ⟨(Nat.le_of_ble_eq_true rfl), (Nat.le_of_ble_eq_true rfl)⟩ ⟨(Nat.le_of_ble_eq_true rfl), (Nat.le_of_ble_eq_true rfl)⟩ rfl rfl (Nat.le_of_ble_eq_true rfl) rfl rfl rfl (Nat.le_of_ble_eq_true rfl) rfl ?_
    by_cases c : gi S (rot (ar fr to_ d))
    · rw [zb_f (fun z => z c), if_neg (fun z => (hfr.mp z) c), ← h4]
      refine zi_if_eq O 52 d_Mod_turn_45 (by decide) (fun c45 => ?_) (fun c45 => ?_)
      · refine zi_iconstN O 1 d_Mod_turn_52 (by decide) ?_
        first | refine zi_iaddN O d_Mod_turn_53 ?_ | refine zi_iadd O d_Mod_turn_53 ?_
        refine zi_iret O d_Mod_turn_54 (Nat.le_of_ble_eq_true rfl) (Nat.le_of_ble_eq_true rfl) (Nat.le_of_ble_eq_true rfl) ?_
        exact ⟨rfl, rfl⟩
      · exact absurd rfl c45
    · rw [zb_t c, if_pos (hfr.mpr c), ← h4]
      refine zi_if_eq O 52 d_Mod_turn_45 (by decide) (fun c45 => ?_) (fun c45 => ?_)
      · exact absurd c45 (by decide)
      · refine zi_iconstN O 0 d_Mod_turn_48 (by decide) ?_
        refine zi_goto O 53 d_Mod_turn_49 (by decide) ?_
        first | refine zi_iaddN O d_Mod_turn_53 ?_ | refine zi_iadd O d_Mod_turn_53 ?_
        refine zi_iret O d_Mod_turn_54 (Nat.le_of_ble_eq_true rfl) (Nat.le_of_ble_eq_true rfl) (Nat.le_of_ble_eq_true rfl) ?_
        exact ⟨rfl, rfl⟩
  refine zMet_of (plainFor_of_name (by decide +kernel)) rfl (Nat.le_of_ble_eq_true rfl) (fun z1 z2 z3 z4 z5 z6 z7 z8 z9 z10 z11 z12 z13 z14 O hin => ?_)
  refine zi_ls (ls' := [some (.ref 0), some (.int (nI D)), none, none]) rfl ?_
  refine zi_aload_n O d_Mod_turn_0 rfl ?_
  refine zi_iload_n O d_Mod_turn_1 rfl ?_
  refine zi_iconstN O 2 d_Mod_turn_2 (by decide) ?_
  refine zi_idivN O d_Mod_turn_3 (by omega) (by omega) (by omega) ?_
  refine zi_iload_n O d_Mod_turn_4 rfl ?_
  refine zi_iconstN O 2 d_Mod_turn_5 (by decide) ?_
  refine zi_iremN O d_Mod_turn_6 (by omega) (by omega) (by omega) ?_
  refine zi_iconstN O 1 d_Mod_turn_7 (by decide) ?_
  refine zi_icmp_neN O 15 d_Mod_turn_8 (by decide) (by omega) (by omega) (fun c8 => ?_) (fun c8 => ?_)
  · refine zi_iconstN O 0 d_Mod_turn_15 (by decide) ?_
    rw [hD1]
    refine zi_selfP O c_Mod_66 k_Mod_placeOf (m_Mod_to hR hG h he) d_Mod_turn_16 ⟨(Nat.le_of_ble_eq_true rfl), (Nat.le_of_ble_eq_true rfl)⟩ ⟨(Nat.le_of_ble_eq_true rfl), (Nat.le_of_ble_eq_true rfl)⟩ rfl rfl (Nat.le_of_ble_eq_true rfl) rfl rfl rfl (Nat.le_of_ble_eq_true rfl) rfl ?_
    rw [show to_ (d / 2) = ar fr to_ d by unfold ar; rw [if_pos (by omega)]]
    exact tail O
  · refine zi_iconstN O 1 d_Mod_turn_11 (by decide) ?_
    refine zi_goto O 16 d_Mod_turn_12 (by decide) ?_
    rw [hD1]
    refine zi_selfP O c_Mod_66 k_Mod_placeOf (m_Mod_fr hR hG h he) d_Mod_turn_16 ⟨(Nat.le_of_ble_eq_true rfl), (Nat.le_of_ble_eq_true rfl)⟩ ⟨(Nat.le_of_ble_eq_true rfl), (Nat.le_of_ble_eq_true rfl)⟩ rfl rfl (Nat.le_of_ble_eq_true rfl) rfl rfl rfl (Nat.le_of_ble_eq_true rfl) rfl ?_
    rw [show fr (d / 2) = ar fr to_ d by unfold ar; rw [if_neg (by omega)]]
    exact tail O
theorem m_Mod_rowOf {m e l : Nat} {rw_ : Nat → Nat} (hm : m ≤ 80) (hr : ∀ i, i < m → row i = nI (rw_ i) ∧ rw_ i ≤ 9999) (hinc : ∀ i j, i < j → j < m → rw_ i < rw_ j) (he : e < m) (hl : l = rw_ e) : zPu y_Mod_rowOf b_Mod_rowOf 3 (some .int) ⟨0, 0, 0, 0⟩ [.ref 0, .int (nI l)] (mh put wrong pS pL n ci oN oC S L oS oL labs row fresh piece closed faces comp fof sides side free arnd) (.int (nI e)) := by
  have hle := (hr e he).2
  refine zMet_of (plainFor_of_name (by decide +kernel)) rfl (Nat.le_of_ble_eq_true rfl) (fun z1 z2 z3 z4 z5 z6 z7 z8 z9 z10 z11 z12 z13 z14 O hin => ?_)
  refine zi_ls (ls' := [some (.ref 0), some (.int (nI l)), none]) rfl ?_
  refine zi_iconstN O 0 d_Mod_rowOf_0 (by decide) ?_
  refine zi_istore_n (ls' := _ :: _ :: some _ :: _) O d_Mod_rowOf_1 rfl (by decide) rfl ?_
  refine zi_for (fun i => [some (.ref 0), some (.int (nI l)), some (.int (nI i))]) (fun _ => (mh put wrong pS pL n ci oN oC S L oS oL labs row fresh piece closed faces comp fof sides side free arnd)) 0 e (by omega) rfl rfl (fun i _ hi ih => ?_) ?_
  · obtain ⟨h1, h2⟩ := hr i (by omega)
    refine zi_aload_n O d_Mod_rowOf_2 rfl ?_
    refine zi_get O f_Mod_32 d_Mod_rowOf_3 rfl rfl ?_
    refine zi_iload_n O d_Mod_rowOf_6 rfl ?_
    refine zi_iald O d_Mod_rowOf_7 rfl rfl (by omega) (Nat.le_of_ble_eq_true rfl) ?_
    rw [h1]
    refine zi_iload_n O d_Mod_rowOf_8 rfl ?_
    refine zi_icmp_eqN O 18 d_Mod_rowOf_9 (by decide) (by omega) (by omega) (fun c9 => ?_) (fun c9 => ?_)
    · have := hinc i e hi he
      omega
    · refine zi_iincN (ls' := _ :: _ :: some _ :: _) O 1 d_Mod_rowOf_12 rfl (by decide) rfl (by decide) rfl ?_
      refine zi_goto O 2 d_Mod_rowOf_15 (by decide) ?_
      exact ih
  · refine zi_aload_n O d_Mod_rowOf_2 rfl ?_
    refine zi_get O f_Mod_32 d_Mod_rowOf_3 rfl rfl ?_
    refine zi_iload_n O d_Mod_rowOf_6 rfl ?_
    refine zi_iald O d_Mod_rowOf_7 rfl rfl (by omega) (Nat.le_of_ble_eq_true rfl) ?_
    rw [(hr e he).1]
    refine zi_iload_n O d_Mod_rowOf_8 rfl ?_
    refine zi_icmp_eqN O 18 d_Mod_rowOf_9 (by decide) (by omega) (by omega) (fun c9 => ?_) (fun c9 => ?_)
    · refine zi_iload_n O d_Mod_rowOf_18 rfl ?_
      refine zi_iret O d_Mod_rowOf_19 (Nat.le_of_ble_eq_true rfl) (Nat.le_of_ble_eq_true rfl) (Nat.le_of_ble_eq_true rfl) ?_
      exact ⟨rfl, rfl⟩
    · omega
set_option maxHeartbeats 1000000 in
theorem m_Mod_components {lab el fr to_ at_ : Nat → Nat} (hR : RowOK n L lab) (hG : Sg n S) (h : Ed n lab S el fr to_ at_) : zMet y_Mod_components b_Mod_components 4 none ⟨3, 0, 0, 80⟩ [.ref 0] (mh put wrong pS pL n ci oN oC S L oS oL labs row fresh piece closed faces comp fof sides side free arnd)
    (fun r h' => r = none ∧ ∃ (row' comp' : Nat → Int32), h' = (mh put wrong pS pL n ci oN oC S L oS oL (2 * n) row' fresh piece ((FF (nxE to_ at_) (2 * n) (2 * n)).2) faces comp' fof sides side free arnd) ∧ ∀ i, i < 2 * n → row' i = nI (el i)) := by
  have hn := hR.1
  have hp := perm_E h
  have hN : 2 * n < 2 ^ 31 := by omega
  refine zMet_of (plainFor_of_name (by decide +kernel)) rfl (Nat.le_of_ble_eq_true rfl) (fun z1 z2 z3 z4 z5 z6 z7 z8 z9 z10 z11 z12 z13 z14 O hin => ?_)
  refine zi_ls (ls' := [some (.ref 0), none, none, none]) rfl ?_
  refine zi_iconstN O 0 d_Mod_components_0 (by decide) ?_
  refine zi_istore_n (ls' := _ :: some _ :: _) O d_Mod_components_1 rfl (by decide) rfl ?_
  refine zi_loop (σ := Nat × (Nat → Int32)) (fun x => [some (.ref 0), some (.int (nI x.1)), none, none]) (fun x => (mh put wrong pS pL n ci oN oC S L oS oL labs row fresh piece closed faces (x.2) fof sides side free arnd)) (fun x => x.1 ≤ 80 ∧ ∀ q, q < x.1 → x.2 q = -1) (fun x => 80 - x.1) (0, comp) rfl rfl ⟨Nat.zero_le _, fun q hq => absurd hq (Nat.not_lt_zero q)⟩ ?_
  rintro ⟨i, C⟩ ⟨hi, hC⟩ ih
  dsimp only at hi hC ih ⊢
  refine zi_iload_n O d_Mod_components_2 rfl ?_
  refine zi_bipushN O 80 d_Mod_components_3 (by decide) ?_
  refine zi_icmp_geN O 21 d_Mod_components_5 (by decide) (by omega) (by omega) (fun c5 => ?_) (fun c5 => ?_)
  · refine zi_aload_n O d_Mod_components_21 rfl ?_
    refine zi_iconstN O 0 d_Mod_components_22 (by decide) ?_
    refine zi_put O f_Mod_77 d_Mod_components_23 rfl (Nat.le_of_ble_eq_true rfl) (fun _ => rfl) (fun _ => rfl) (by dsimp only [List.set]) ?_
    refine zi_aload_n O d_Mod_components_26 rfl ?_
    refine zi_selfV O c_Mod_80 k_Mod_sort (m_Mod_sort lab hR) d_Mod_components_27 ⟨(Nat.le_of_ble_eq_true rfl), (Nat.le_of_ble_eq_true rfl)⟩ ⟨(Nat.le_of_ble_eq_true rfl), (Nat.le_of_ble_eq_true rfl)⟩ rfl rfl (Nat.le_of_ble_eq_true rfl) rfl rfl rfl (Nat.le_of_ble_eq_true rfl) rfl (fun r h' hq hl => ?_)
    obtain ⟨rfl, m, row', rw_, rfl, hrow, hsrt⟩ := hq
    obtain ⟨rfl, hrw⟩ := srt_ed h hsrt
    refine zi_st (st' := []) rfl ?_
    refine zi_iconstN O 0 d_Mod_components_30 (by decide) ?_
    refine zi_istore_n (ls' := _ :: some _ :: _) O d_Mod_components_31 rfl (by decide) rfl ?_
    refine zi_loop (σ := Nat × (Nat → Int32)) (fun x => [some (.ref 0), some (.int (nI x.1)), none, none]) (fun x => (mh put wrong pS pL n ci oN oC S L oS oL (2 * n) row' fresh piece ((FF (nxE to_ at_) (2 * n) x.1).2) faces (x.2) fof sides side free arnd)) (fun x => x.1 ≤ 2 * n ∧ ∀ e, e < 2 * n → x.2 (fr e) = (FF (nxE to_ at_) (2 * n) x.1).1 e) (fun x => 2 * n - x.1) (0, C) rfl rfl ⟨Nat.zero_le _, fun e he => hC _ (by have := (h.1 e he).1; omega)⟩ ?_
    rintro ⟨d, D⟩ ⟨hd, hD⟩ ih2
    dsimp only at hd hD ih2 ⊢
    obtain ⟨g1, g2, g3, g4⟩ := ff_cl hN hp d hd
    have hF := ff_le hN hp (d := d) (by omega)
    refine zi_iload_n O d_Mod_components_32 rfl ?_
    refine zi_aload_n O d_Mod_components_33 rfl ?_
    refine zi_get O f_Mod_74 d_Mod_components_34 rfl rfl ?_
    refine zi_icmp_geN O 148 d_Mod_components_37 (by decide) (by omega) (by omega) (fun c37 => ?_) (fun c37 => ?_)
    · refine zi_vret O d_Mod_components_148 (Nat.le_of_ble_eq_true rfl) (Nat.le_of_ble_eq_true rfl) (Nat.le_of_ble_eq_true rfl) ?_
      have : d = 2 * n := by omega
      subst this
      exact ⟨rfl, row', D, rfl, fun i hi => by rw [hrow i hi, hrw i hi]⟩
    · have f1 := (h.1 d c37).1
      refine zi_aload_n O d_Mod_components_40 rfl ?_
      refine zi_get O f_Mod_32 d_Mod_components_41 rfl rfl ?_
      refine zi_iload_n O d_Mod_components_44 rfl ?_
      refine zi_iald O d_Mod_components_45 rfl rfl (by omega) (Nat.le_of_ble_eq_true rfl) ?_
      rw [hrow d c37, hrw d c37]
      refine zi_istore_n (ls' := _ :: _ :: some _ :: _) O d_Mod_components_46 rfl (by decide) rfl ?_
      refine zi_aload_n O d_Mod_components_47 rfl ?_
      refine zi_get O f_Mod_41 d_Mod_components_48 rfl rfl ?_
      refine zi_aload_n O d_Mod_components_51 rfl ?_
      refine zi_iload_n O d_Mod_components_52 rfl ?_
      refine zi_iconstN O 1 d_Mod_components_53 (by decide) ?_
      refine zi_selfP O c_Mod_66 k_Mod_placeOf (m_Mod_fr hR hG h c37) d_Mod_components_54 ⟨(Nat.le_of_ble_eq_true rfl), (Nat.le_of_ble_eq_true rfl)⟩ ⟨(Nat.le_of_ble_eq_true rfl), (Nat.le_of_ble_eq_true rfl)⟩ rfl rfl (Nat.le_of_ble_eq_true rfl) rfl rfl rfl (Nat.le_of_ble_eq_true rfl) rfl ?_
      refine zi_iald O d_Mod_components_57 rfl rfl (by omega) (Nat.le_of_ble_eq_true rfl) ?_
      rw [hD d c37]
      refine zi_if_ge O 65 d_Mod_components_58 (by decide) (fun c58 => ?_) (fun c58 => ?_)
      · have e : FF (nxE to_ at_) (2 * n) (d + 1) = FF (nxE to_ at_) (2 * n) d := by rw [FF, if_neg (Int32.not_lt.mpr c58)]
        refine zi_iconstN O 0 d_Mod_components_65 (by decide) ?_
        refine zi_istore_n (ls' := _ :: _ :: _ :: some _ :: _) O d_Mod_components_66 rfl (by decide) rfl ?_
        refine zi_iload_n O d_Mod_components_67 rfl ?_
        refine zi_if_eq O 124 d_Mod_components_68 (by decide) (fun c68 => ?_) (fun c68 => ?_)
        · refine zi_aload_n O d_Mod_components_124 rfl ?_
          refine zi_dup O d_Mod_components_125 rfl ?_
          refine zi_get O f_Mod_77 d_Mod_components_126 rfl rfl ?_
          refine zi_iload_n O d_Mod_components_129 rfl ?_
          refine zi_if_eq O 137 d_Mod_components_130 (by decide) (fun c130 => ?_) (fun c130 => ?_)
          · refine zi_iconstN O 0 d_Mod_components_137 (by decide) ?_
            first | refine zi_iaddN O d_Mod_components_138 ?_ | refine zi_iadd O d_Mod_components_138 ?_
            refine zi_put O f_Mod_77 d_Mod_components_139 rfl (Nat.le_of_ble_eq_true rfl) (fun _ => rfl) (fun _ => rfl) (by dsimp only [List.set]) ?_
            refine zi_iincN (ls' := _ :: some _ :: _) O 1 d_Mod_components_142 rfl (by decide) rfl (by decide) rfl ?_
            refine zi_goto O 32 d_Mod_components_145 (by decide) ?_
            refine zi_no 2 (ls' := _ :: _ :: none :: _) rfl ?_
            refine zi_no 3 (ls' := _ :: _ :: _ :: none :: _) rfl ?_
            have := ih2 (d + 1, D) ⟨by dsimp only; omega, fun e he => by dsimp only; rw [FF, if_neg (Int32.not_lt.mpr c58)]; exact hD e he⟩ (by dsimp only; omega)
            dsimp only at this
            rw [e] at this
            exact this
          · exact absurd rfl c130
        · exact absurd rfl c68
      · have hf := Int32.not_le.mp c58
        obtain ⟨t, t0, tb, td, t1, t2, tc, tw, tcl⟩ := walk_round (v := nI (FF (nxE to_ at_) (2 * n) d).2) hp g1 c37 hf (nI_pos (by omega))
        have e : FF (nxE to_ at_) (2 * n) (d + 1) = (gs (nxE to_ at_) (nI (FF (nxE to_ at_) (2 * n) d).2) (FF (nxE to_ at_) (2 * n) d).1 d t, (FF (nxE to_ at_) (2 * n) d).2 + 1) := by rw [FF, if_pos hf, tw]
        have hcs := cs_gs hp c37 (nI_pos (by omega)) t1
        refine zi_iconstN O 1 d_Mod_components_61 (by decide) ?_
        refine zi_goto O 66 d_Mod_components_62 (by decide) ?_
        refine zi_istore_n (ls' := _ :: _ :: _ :: some _ :: _) O d_Mod_components_66 rfl (by decide) rfl ?_
        refine zi_loop (σ := Nat × (Nat → Int32)) (fun x => [some (.ref 0), some (.int (nI d)), some (.int (nI (el (it (nxE to_ at_) x.1 d)))), some (.int (nI 1))]) (fun x => (mh put wrong pS pL n ci oN oC S L oS oL (2 * n) row' fresh piece ((FF (nxE to_ at_) (2 * n) d).2) faces (x.2) fof sides side free arnd)) (fun x => x.1 ≤ t ∧ ∀ e, e < 2 * n → x.2 (fr e) = gs (nxE to_ at_) (nI (FF (nxE to_ at_) (2 * n) d).2) (FF (nxE to_ at_) (2 * n) d).1 d x.1 e) (fun x => t - x.1) (0, D) rfl rfl ⟨Nat.zero_le _, hD⟩ ?_
        rintro ⟨a, X⟩ ⟨ha, hX⟩ ih3
        dsimp only at ha hX ih3 ⊢
        have hlt := it_lt hp c37 a
        obtain ⟨b1, b2, b3, b4, b5, b6⟩ := h.1 _ hlt
        refine zi_iload_n O d_Mod_components_67 rfl ?_
        refine zi_if_eq O 124 d_Mod_components_68 (by decide) (fun c68 => ?_) (fun c68 => ?_)
        · exact absurd c68 (by decide)
        · refine zi_aload_n O d_Mod_components_71 rfl ?_
          refine zi_get O f_Mod_41 d_Mod_components_72 rfl rfl ?_
          refine zi_aload_n O d_Mod_components_75 rfl ?_
          refine zi_iload_n O d_Mod_components_76 rfl ?_
          refine zi_iconstN O 1 d_Mod_components_77 (by decide) ?_
          refine zi_selfP O c_Mod_66 k_Mod_placeOf (m_Mod_fr hR hG h hlt) d_Mod_components_78 ⟨(Nat.le_of_ble_eq_true rfl), (Nat.le_of_ble_eq_true rfl)⟩ ⟨(Nat.le_of_ble_eq_true rfl), (Nat.le_of_ble_eq_true rfl)⟩ rfl rfl (Nat.le_of_ble_eq_true rfl) rfl rfl rfl (Nat.le_of_ble_eq_true rfl) rfl ?_
          refine zi_iald O d_Mod_components_81 rfl rfl (by omega) (Nat.le_of_ble_eq_true rfl) ?_
          rw [hX _ hlt]
          refine zi_if_ge O 124 d_Mod_components_82 (by decide) (fun c82 => ?_) (fun c82 => ?_)
          · have hat : a = t := by
              rcases Nat.lt_or_ge a t with z | z
              · exact absurd (t1 a z) (Int32.not_lt.mpr c82)
              · omega
            subst hat
            refine zi_aload_n O d_Mod_components_124 rfl ?_
            refine zi_dup O d_Mod_components_125 rfl ?_
            refine zi_get O f_Mod_77 d_Mod_components_126 rfl rfl ?_
            refine zi_iload_n O d_Mod_components_129 rfl ?_
            refine zi_if_eq O 137 d_Mod_components_130 (by decide) (fun c130 => ?_) (fun c130 => ?_)
            · exact absurd c130 (by decide)
            · refine zi_iconstN O 1 d_Mod_components_133 (by decide) ?_
              refine zi_goto O 138 d_Mod_components_134 (by decide) ?_
              first | refine zi_iaddN O d_Mod_components_138 ?_ | refine zi_iadd O d_Mod_components_138 ?_
              refine zi_put O f_Mod_77 d_Mod_components_139 rfl (Nat.le_of_ble_eq_true rfl) (fun _ => rfl) (fun _ => rfl) (by dsimp only [List.set]) ?_
              refine zi_iincN (ls' := _ :: some _ :: _) O 1 d_Mod_components_142 rfl (by decide) rfl (by decide) rfl ?_
              refine zi_goto O 32 d_Mod_components_145 (by decide) ?_
              refine zi_no 2 (ls' := _ :: _ :: none :: _) rfl ?_
              refine zi_no 3 (ls' := _ :: _ :: _ :: none :: _) rfl ?_
              have := ih2 (d + 1, X) ⟨by dsimp only; omega, fun e' he => by dsimp only; rw [e]; exact hX e' he⟩ (by dsimp only; omega)
              dsimp only at this
              rw [e] at this
              exact this
          · have hat : a < t := by
              rcases Nat.lt_or_ge a t with z | z
              · exact z
              · have : a = t := by omega
                subst this
                exact absurd (Int32.not_le.mp c82) t2
            refine zi_aload_n O d_Mod_components_85 rfl ?_
            refine zi_get O f_Mod_41 d_Mod_components_86 rfl rfl ?_
            refine zi_aload_n O d_Mod_components_89 rfl ?_
            refine zi_iload_n O d_Mod_components_90 rfl ?_
            refine zi_iconstN O 1 d_Mod_components_91 (by decide) ?_
            refine zi_selfP O c_Mod_66 k_Mod_placeOf (m_Mod_fr hR hG h hlt) d_Mod_components_92 ⟨(Nat.le_of_ble_eq_true rfl), (Nat.le_of_ble_eq_true rfl)⟩ ⟨(Nat.le_of_ble_eq_true rfl), (Nat.le_of_ble_eq_true rfl)⟩ rfl rfl (Nat.le_of_ble_eq_true rfl) rfl rfl rfl (Nat.le_of_ble_eq_true rfl) rfl ?_
            refine zi_aload_n O d_Mod_components_95 rfl ?_
            refine zi_get O f_Mod_77 d_Mod_components_96 rfl rfl ?_
            refine zi_iast O d_Mod_components_99 rfl rfl (by omega) (Nat.le_of_ble_eq_true rfl) (by dsimp only [List.set]) ?_
            refine zi_aload_n O d_Mod_components_100 rfl ?_
            refine zi_get O f_Mod_41 d_Mod_components_101 rfl rfl ?_
            refine zi_aload_n O d_Mod_components_104 rfl ?_
            refine zi_iload_n O d_Mod_components_105 rfl ?_
            refine zi_iconstN O 0 d_Mod_components_106 (by decide) ?_
            refine zi_selfP O c_Mod_66 k_Mod_placeOf (m_Mod_to hR hG h hlt) d_Mod_components_107 ⟨(Nat.le_of_ble_eq_true rfl), (Nat.le_of_ble_eq_true rfl)⟩ ⟨(Nat.le_of_ble_eq_true rfl), (Nat.le_of_ble_eq_true rfl)⟩ rfl rfl (Nat.le_of_ble_eq_true rfl) rfl rfl rfl (Nat.le_of_ble_eq_true rfl) rfl ?_
            refine zi_aload_n O d_Mod_components_110 rfl ?_
            refine zi_get O f_Mod_77 d_Mod_components_111 rfl rfl ?_
            refine zi_iast O d_Mod_components_114 rfl rfl (by omega) (Nat.le_of_ble_eq_true rfl) (by dsimp only [List.set]) ?_
            refine zi_aload_n O d_Mod_components_115 rfl ?_
            refine zi_iload_n O d_Mod_components_116 rfl ?_
            refine zi_selfP O c_Mod_83 k_Mod_next (m_Mod_next hR hG h hlt) d_Mod_components_117 ⟨(Nat.le_of_ble_eq_true rfl), (Nat.le_of_ble_eq_true rfl)⟩ ⟨(Nat.le_of_ble_eq_true rfl), (Nat.le_of_ble_eq_true rfl)⟩ rfl rfl (Nat.le_of_ble_eq_true rfl) rfl rfl rfl (Nat.le_of_ble_eq_true rfl) rfl ?_
            refine zi_istore_n (ls' := _ :: _ :: some _ :: _) O d_Mod_components_120 rfl (by decide) rfl ?_
            refine zi_goto O 67 d_Mod_components_121 (by decide) ?_
            refine ih3 (a + 1, upd (upd X (fr (it (nxE to_ at_) a d)) (nI (FF (nxE to_ at_) (2 * n) d).2)) (to_ (it (nxE to_ at_) a d)) (nI (FF (nxE to_ at_) (2 * n) d).2)) ⟨by dsimp only; omega, fun e' he => ?_⟩ (by dsimp only; omega)
            dsimp only
            rw [gs, pk_un (ed_ne h he hlt)]
            by_cases c : e' = it (nxE to_ at_) a d
            · rw [c, pk_us, pk_us]
            · rw [pk_un c, pk_un (fun z => c ?_)]
              · exact hX e' he
              · rw [← ed_at_fr h he, z, ed_at_fr h hlt]
  · refine zi_aload_n O d_Mod_components_8 rfl ?_
    refine zi_get O f_Mod_41 d_Mod_components_9 rfl rfl ?_
    refine zi_iload_n O d_Mod_components_12 rfl ?_
    refine zi_iconst (v := -1) O d_Mod_components_13 (by decide) ?_
    refine zi_iast O d_Mod_components_14 rfl rfl (by omega) (Nat.le_of_ble_eq_true rfl) (by dsimp only [List.set]) ?_
    refine zi_iincN (ls' := _ :: some _ :: _) O 1 d_Mod_components_15 rfl (by decide) rfl (by decide) rfl ?_
    refine zi_goto O 2 d_Mod_components_18 (by decide) ?_
    refine ih (i + 1, upd C i (-1)) ⟨by dsimp only; omega, fun q hq => ?_⟩ (by dsimp only; omega)
    dsimp only at hq ⊢
    by_cases c : q = i
    · rw [c, pk_us]
    · rw [pk_un c]; exact hC q (by omega)
end
