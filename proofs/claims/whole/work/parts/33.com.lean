/-! the components; Pieces.find -/
def ac (q : Nat) : Nat := 4 * (q / 4) + (q + 2) % 4
theorem xor2 : ∀ q, q < 80 → nI q ^^^ nI 2 = nI (ac q) := by decide +kernel
theorem ac_lt {n q : Nat} (h : q < 4 * n) : ac q < 4 * n := by unfold ac; omega
theorem ac_ac (q : Nat) : ac (ac q) = q := by unfold ac; omega
theorem ac_div (q : Nat) : ac q / 4 = q / 4 := by unfold ac; omega
theorem gi_ac (S : Nat → Int32) (q : Nat) : gi S (ac q) ↔ ¬ gi S q := by
  have h1 : ac q / 4 = q / 4 := ac_div q
  have h2 : up S (q / 4) = 3 ∨ up S (q / 4) = 1 := by unfold up; split <;> simp
  unfold gi
  rw [h1]
  unfold ac
  rcases h2 with h2 | h2 <;> rw [h2] <;> omega
def nxE (to_ at_ : Nat → Nat) (e : Nat) : Nat := at_ (ac (to_ e))
theorem ed_fr_of {n : Nat} {lab : Nat → Nat} {S : Nat → Int32} {el fr to_ at_ : Nat → Nat} (h : Ed n lab S el fr to_ at_) {q : Nat} (hq : q < 4 * n) (hg : ¬ gi S q) : fr (at_ q) = q := by
  obtain ⟨a1, a2⟩ := h.2.2 q hq
  rcases a2 with a2 | a2
  · exact a2.symm
  · exact absurd (by rw [a2]; exact (h.1 _ a1).2.2.2.2.2) hg
theorem ed_to_of {n : Nat} {lab : Nat → Nat} {S : Nat → Int32} {el fr to_ at_ : Nat → Nat} (h : Ed n lab S el fr to_ at_) {q : Nat} (hq : q < 4 * n) (hg : gi S q) : to_ (at_ q) = q := by
  obtain ⟨a1, a2⟩ := h.2.2 q hq
  rcases a2 with a2 | a2
  · exact absurd hg (by rw [a2]; exact (h.1 _ a1).2.2.2.2.1)
  · exact a2.symm
theorem perm_E {n : Nat} {lab : Nat → Nat} {S : Nat → Int32} {el fr to_ at_ : Nat → Nat} (h : Ed n lab S el fr to_ at_) : Perm (2 * n) (nxE to_ at_) := by
  refine ⟨fun d hd => (h.2.2 _ (ac_lt (h.1 d hd).2.1)).1, fun a b ha hb he => ?_⟩
  have h1 := ed_fr_of h (ac_lt (h.1 a ha).2.1) (fun z => ((gi_ac S _).mp z) (h.1 a ha).2.2.2.2.2)
  have h2 := ed_fr_of h (ac_lt (h.1 b hb).2.1) (fun z => ((gi_ac S _).mp z) (h.1 b hb).2.2.2.2.2)
  unfold nxE at he
  rw [he, h2] at h1
  have h3 : to_ b = to_ a := by rw [← ac_ac (to_ b), h1, ac_ac]
  have h4 := ed_at_to h ha
  have h5 := ed_at_to h hb
  rw [h3, h4] at h5
  exact h5
set_option maxHeartbeats 1000000 in
theorem m_Pie_followComponent {n : Nat} {lab : Nat → Nat} {S : Nat → Int32} {el fr to_ at_ : Nat → Nat} {LB FR TO AT : Nat → Int32} (hn : n ≤ 20) (h : Ed n lab S el fr to_ at_) (hA : EdA n el fr to_ at_ LB FR TO AT) (PL : Nat → Int32) (pc co : Nat) (OC CE : Nat → Int32) (d t : Nat) (hF : co < 80) (hd : d < 2 * n)
    (t1 : ∀ a, a < t → gs (nxE to_ at_) (nI co) CE d a (it (nxE to_ at_) a d) < 0) (t2 : ¬ gs (nxE to_ at_) (nI co) CE d t (it (nxE to_ at_) t d) < 0) : zMet y_Pie_followComponent b_Pie_followComponent 5 none ⟨0, 0, 0, 0⟩ [.ref 0, .ref 3, .int (nI d)] (peH pc co OC CE (2 * n) PL LB FR TO AT)
    (fun r h' => r = none ∧ h' = peH pc co OC (gs (nxE to_ at_) (nI co) CE d t) (2 * n) PL LB FR TO AT) := by
  have hp := perm_E h
  have hcs := cs_gs (v := nI co) hp hd (nI_pos (by omega)) t1
  have hlt := fun i => it_lt hp hd i
  refine zMet_of (plainFor_of_name (by decide +kernel)) rfl (Nat.le_of_ble_eq_true rfl) (fun z1 z2 z3 z4 z5 z6 z7 z8 z9 z10 z11 z12 z13 z14 O hin => ?_)
  refine zi_ls (ls' := [some (.ref 0), some (.ref 3), some (.int (nI d)), none, none]) rfl ?_
  refine zi_iload_n O d_Pie_followComponent_0 rfl ?_
  refine zi_istore_n (ls' := _ :: _ :: _ :: some _ :: _) O d_Pie_followComponent_1 rfl (by decide) rfl ?_
  refine zi_iconstN O 0 d_Pie_followComponent_2 (by decide) ?_
  refine zi_istore (ls' := _ :: _ :: _ :: _ :: some _ :: _) O d_Pie_followComponent_3 rfl (by decide) rfl ?_
  refine zi_for (fun i => [some (.ref 0), some (.ref 3), some (.int (nI d)), some (.int (nI (it (nxE to_ at_) i d))), some (.int (nI i))]) (fun i => peH pc co OC (gs (nxE to_ at_) (nI co) CE d i) (2 * n) PL LB FR TO AT) 0 t (by omega) rfl rfl (fun i _ hi ih => ?_) ?_
  · have e1 := hcs i (by omega)
    have e2 := cs_lt (hlt i) (t1 i hi)
    have e3 := hlt i
    have e4 := (h.1 _ e3).2.1
    refine zi_iload O d_Pie_followComponent_5 rfl ?_
    refine zi_bipushN O 40 d_Pie_followComponent_7 (by decide) ?_
    refine zi_icmp_geN O 51 d_Pie_followComponent_9 (by decide) (by omega) (by omega) (fun c9 => ?_) (fun c9 => ?_)
    · omega
    · refine zi_aload_n O d_Pie_followComponent_12 rfl ?_
      refine zi_get O f_Pie_15 d_Pie_followComponent_13 rfl rfl ?_
      refine zi_iload_n O d_Pie_followComponent_16 rfl ?_
      refine zi_iald O d_Pie_followComponent_17 rfl rfl (by omega) (Nat.le_of_ble_eq_true rfl) ?_
      refine zi_if_ge O 51 d_Pie_followComponent_18 (by decide) (fun c18 => ?_) (fun c18 => ?_)
      · exact absurd (t1 i hi) (Int32.not_lt.mpr c18)
      · refine zi_aload_n O d_Pie_followComponent_21 rfl ?_
        refine zi_get O f_Pie_15 d_Pie_followComponent_22 rfl rfl ?_
        refine zi_iload_n O d_Pie_followComponent_25 rfl ?_
        refine zi_aload_n O d_Pie_followComponent_26 rfl ?_
        refine zi_get O f_Pie_58 d_Pie_followComponent_27 rfl rfl ?_
        refine zi_iast O d_Pie_followComponent_30 rfl rfl (by omega) (Nat.le_of_ble_eq_true rfl) (by dsimp only [List.set]) ?_
        refine zi_aload_n O d_Pie_followComponent_31 rfl ?_
        refine zi_get O f_Pie_65 d_Pie_followComponent_32 rfl rfl ?_
        refine zi_aload_n O d_Pie_followComponent_35 rfl ?_
        refine zi_get O f_Pie_36 d_Pie_followComponent_36 rfl rfl ?_
        refine zi_iload_n O d_Pie_followComponent_39 rfl ?_
        refine zi_iald O d_Pie_followComponent_40 rfl rfl (by omega) (Nat.le_of_ble_eq_true rfl) ?_
        rw [(hA.1 _ e3).2.2]
        refine zi_iconstN O 2 d_Pie_followComponent_41 (by decide) ?_
        refine zi_ixor O d_Pie_followComponent_42 ?_
        have e5 := ac_lt e4
        rw [xor2 _ (by omega)]
        refine zi_iald O d_Pie_followComponent_43 rfl rfl (by omega) (Nat.le_of_ble_eq_true rfl) ?_
        rw [hA.2 _ (ac_lt e4)]
        refine zi_istore_n (ls' := _ :: _ :: _ :: some _ :: _) O d_Pie_followComponent_44 rfl (by decide) rfl ?_
        refine zi_iincN (ls' := _ :: _ :: _ :: _ :: some _ :: _) O 1 d_Pie_followComponent_45 rfl (by decide) rfl (by decide) rfl ?_
        refine zi_goto O 5 d_Pie_followComponent_48 (by decide) ?_
        exact ih
  · have e3 := hlt t
    have e4 := hcs t (Nat.le_refl _)
    have e5 := cs_le (gs (nxE to_ at_) (nI co) CE d t) (2 * n)
    refine zi_iload O d_Pie_followComponent_5 rfl ?_
    refine zi_bipushN O 40 d_Pie_followComponent_7 (by decide) ?_
    refine zi_icmp_geN O 51 d_Pie_followComponent_9 (by decide) (by omega) (by omega) (fun c9 => ?_) (fun c9 => ?_)
    · refine zi_vret O d_Pie_followComponent_51 (Nat.le_of_ble_eq_true rfl) (Nat.le_of_ble_eq_true rfl) (Nat.le_of_ble_eq_true rfl) ?_
      exact ⟨rfl, rfl⟩
    · refine zi_aload_n O d_Pie_followComponent_12 rfl ?_
      refine zi_get O f_Pie_15 d_Pie_followComponent_13 rfl rfl ?_
      refine zi_iload_n O d_Pie_followComponent_16 rfl ?_
      refine zi_iald O d_Pie_followComponent_17 rfl rfl (by omega) (Nat.le_of_ble_eq_true rfl) ?_
      refine zi_if_ge O 51 d_Pie_followComponent_18 (by decide) (fun c18 => ?_) (fun c18 => ?_)
      · refine zi_vret O d_Pie_followComponent_51 (Nat.le_of_ble_eq_true rfl) (Nat.le_of_ble_eq_true rfl) (Nat.le_of_ble_eq_true rfl) ?_
        exact ⟨rfl, rfl⟩
      · exact absurd (Int32.not_le.mp c18) t2
set_option maxHeartbeats 1000000 in
theorem m_Pie_countComponents {n : Nat} {lab : Nat → Nat} {S : Nat → Int32} {el fr to_ at_ : Nat → Nat} {LB FR TO AT : Nat → Int32} (hn : n ≤ 20) (h : Ed n lab S el fr to_ at_) (hA : EdA n el fr to_ at_ LB FR TO AT) (PL : Nat → Int32) (pc co : Nat) (OC CE : Nat → Int32) : zMet y_Pie_countComponents b_Pie_countComponents 3 none ⟨2, 0, 0, 60⟩ [.ref 0, .ref 3] (peH pc co OC CE (2 * n) PL LB FR TO AT)
    (fun r h' => r = none ∧ h' = peH pc (FF (nxE to_ at_) (2 * n) (2 * n)).2 OC (FF (nxE to_ at_) (2 * n) (2 * n)).1 (2 * n) PL LB FR TO AT) := by
  have hp := perm_E h
  have hN : 2 * n < 2 ^ 31 := by omega
  refine zMet_of (plainFor_of_name (by decide +kernel)) rfl (Nat.le_of_ble_eq_true rfl) (fun z1 z2 z3 z4 z5 z6 z7 z8 z9 z10 z11 z12 z13 z14 O hin => ?_)
  refine zi_ls (ls' := [some (.ref 0), some (.ref 3), none]) rfl ?_
  refine zi_aload_n O d_Pie_countComponents_0 rfl ?_
  refine zi_get O f_Pie_15 d_Pie_countComponents_1 rfl rfl ?_
  refine zi_iconst (v := -1) O d_Pie_countComponents_4 (by decide) ?_
  refine zi_callS O [2] c_Pie_52 k_Arr_fill (m_Arr_fill 40 CE (-1) (by omega)) d_Pie_countComponents_5 ⟨(Nat.le_of_ble_eq_true rfl), (Nat.le_of_ble_eq_true rfl)⟩ ⟨(Nat.le_of_ble_eq_true rfl), (Nat.le_of_ble_eq_true rfl)⟩ rfl (Nat.le_of_ble_eq_true rfl) rfl rfl rfl rfl rfl (Nat.le_of_ble_eq_true rfl) rfl (fun r h' hq hl => ?_)
  obtain ⟨rfl, rfl⟩ := hq
  refine zi_st (st' := []) rfl (zi_h (h' := peH pc co OC (fun _ => -1) (2 * n) PL LB FR TO AT) rfl ?_)
  refine zi_aload_n O d_Pie_countComponents_8 rfl ?_
  refine zi_iconstN O 0 d_Pie_countComponents_9 (by decide) ?_
  refine zi_put O f_Pie_58 d_Pie_countComponents_10 rfl (Nat.le_of_ble_eq_true rfl) (fun _ => rfl) (fun _ => rfl) (by dsimp only [List.set]) ?_
  refine zi_iconstN O 0 d_Pie_countComponents_13 (by decide) ?_
  refine zi_istore_n (ls' := _ :: _ :: some _ :: _) O d_Pie_countComponents_14 rfl (by decide) rfl ?_
  refine zi_for (fun d => [some (.ref 0), some (.ref 3), some (.int (nI d))]) (fun d => peH pc (FF (nxE to_ at_) (2 * n) d).2 OC (FF (nxE to_ at_) (2 * n) d).1 (2 * n) PL LB FR TO AT) 0 (2 * n) (by omega) rfl rfl (fun d _ hd ih => ?_) ?_
  · obtain ⟨g1, g2, g3, g4⟩ := ff_cl hN hp d (by omega)
    have hF := ff_le hN hp (d := d) (by omega)
    refine zi_iload_n O d_Pie_countComponents_15 rfl ?_
    refine zi_aload_n O d_Pie_countComponents_16 rfl ?_
    refine zi_get O f_Pie_30 d_Pie_countComponents_17 rfl rfl ?_
    refine zi_icmp_geN O 54 d_Pie_countComponents_20 (by decide) (by omega) (by omega) (fun c20 => ?_) (fun c20 => ?_)
    · omega
    · refine zi_aload_n O d_Pie_countComponents_23 rfl ?_
      refine zi_get O f_Pie_15 d_Pie_countComponents_24 rfl rfl ?_
      refine zi_iload_n O d_Pie_countComponents_27 rfl ?_
      refine zi_iald O d_Pie_countComponents_28 rfl rfl (by omega) (Nat.le_of_ble_eq_true rfl) ?_
      refine zi_if_ge O 48 d_Pie_countComponents_29 (by decide) (fun c29 => ?_) (fun c29 => ?_)
      · refine zi_iincN (ls' := _ :: _ :: some _ :: _) O 1 d_Pie_countComponents_48 rfl (by decide) rfl (by decide) rfl ?_
        refine zi_goto O 15 d_Pie_countComponents_51 (by decide) ?_
        have e : FF (nxE to_ at_) (2 * n) (d + 1) = FF (nxE to_ at_) (2 * n) d := by rw [FF, if_neg (Int32.not_lt.mpr c29)]
        rw [e] at ih
        exact ih
      · have hf := Int32.not_le.mp c29
        obtain ⟨t, t0, tb, td, t1, t2, tc, tw, tcl⟩ := walk_round (v := nI (FF (nxE to_ at_) (2 * n) d).2) hp g1 (by omega) hf (nI_pos (by omega))
        have hlt := cs_lt (by omega : d < 2 * n) hf
        refine zi_aload_n O d_Pie_countComponents_32 rfl ?_
        refine zi_aload_n O d_Pie_countComponents_33 rfl ?_
        refine zi_iload_n O d_Pie_countComponents_34 rfl ?_
        refine zi_callV O [0, 1, 2, 3, 4, 5, 6, 7, 8] c_Pie_61 k_Pie_followComponent (m_Pie_followComponent hn h hA PL pc (FF (nxE to_ at_) (2 * n) d).2 OC (FF (nxE to_ at_) (2 * n) d).1 d t (by omega) (by omega) t1 t2) d_Pie_countComponents_35 ⟨(Nat.le_of_ble_eq_true rfl), (Nat.le_of_ble_eq_true rfl)⟩ ⟨(Nat.le_of_ble_eq_true rfl), (Nat.le_of_ble_eq_true rfl)⟩ rfl rfl (Nat.le_of_ble_eq_true rfl) rfl rfl rfl rfl rfl (Nat.le_of_ble_eq_true rfl) rfl (fun r h' hq hl => ?_)
        obtain ⟨rfl, rfl⟩ := hq
        refine zi_st (st' := []) rfl (zi_h (h' := peH pc (FF (nxE to_ at_) (2 * n) d).2 OC (gs (nxE to_ at_) (nI (FF (nxE to_ at_) (2 * n) d).2) (FF (nxE to_ at_) (2 * n) d).1 d t) (2 * n) PL LB FR TO AT) rfl ?_)
        refine zi_aload_n O d_Pie_countComponents_38 rfl ?_
        refine zi_dup O d_Pie_countComponents_39 rfl ?_
        refine zi_get O f_Pie_58 d_Pie_countComponents_40 rfl rfl ?_
        refine zi_iconstN O 1 d_Pie_countComponents_43 (by decide) ?_
        first | refine zi_iaddN O d_Pie_countComponents_44 ?_ | refine zi_iadd O d_Pie_countComponents_44 ?_
        refine zi_put O f_Pie_58 d_Pie_countComponents_45 rfl (Nat.le_of_ble_eq_true rfl) (fun _ => rfl) (fun _ => rfl) (by dsimp only [List.set]) ?_
        refine zi_iincN (ls' := _ :: _ :: some _ :: _) O 1 d_Pie_countComponents_48 rfl (by decide) rfl (by decide) rfl ?_
        refine zi_goto O 15 d_Pie_countComponents_51 (by decide) ?_
        have e : FF (nxE to_ at_) (2 * n) (d + 1) = (gs (nxE to_ at_) (nI (FF (nxE to_ at_) (2 * n) d).2) (FF (nxE to_ at_) (2 * n) d).1 d t, (FF (nxE to_ at_) (2 * n) d).2 + 1) := by rw [FF, if_pos hf, tw]
        rw [e] at ih
        exact ih
  · refine zi_iload_n O d_Pie_countComponents_15 rfl ?_
    refine zi_aload_n O d_Pie_countComponents_16 rfl ?_
    refine zi_get O f_Pie_30 d_Pie_countComponents_17 rfl rfl ?_
    refine zi_icmp_geN O 54 d_Pie_countComponents_20 (by decide) (by omega) (by omega) (fun c20 => ?_) (fun c20 => ?_)
    · refine zi_vret O d_Pie_countComponents_54 (Nat.le_of_ble_eq_true rfl) (Nat.le_of_ble_eq_true rfl) (Nat.le_of_ble_eq_true rfl) ?_
      exact ⟨rfl, rfl⟩
    · omega
theorem m_Pie_find {n : Nat} {lab : Nat → Nat} {S : Nat → Int32} {el fr to_ at_ : Nat → Nat} {LB FR TO AT : Nat → Int32} (hn : n ≤ 20) (h : Ed n lab S el fr to_ at_) (hA : EdA n el fr to_ at_ LB FR TO AT) (PL : Nat → Int32) (pc co : Nat) (OC CE : Nat → Int32) : zMet y_Pie_find b_Pie_find 3 none ⟨3, 0, 0, 84⟩ [.ref 0, .int (nI n), .ref 3] (peH pc co OC CE (2 * n) PL LB FR TO AT)
    (fun r h' => r = none ∧ ∃ (OC' : Nat → Int32) (oc : Nat → Nat), h' = peH (rc oc n) (FF (nxE to_ at_) (2 * n) (2 * n)).2 OC' (FF (nxE to_ at_) (2 * n) (2 * n)).1 (2 * n) PL LB FR TO AT ∧ (∀ c, c < n → OC' c = nI (oc c)) ∧ PcE (2 * n) n fr to_ oc) := by
  refine zMet_of (plainFor_of_name (by decide +kernel)) rfl (Nat.le_of_ble_eq_true rfl) (fun z1 z2 z3 z4 z5 z6 z7 z8 z9 z10 z11 z12 z13 z14 O hin => ?_)
  refine zi_ls (ls' := [some (.ref 0), some (.int (nI n)), some (.ref 3)]) rfl ?_
  refine zi_aload_n O d_Pie_find_0 rfl ?_
  refine zi_iload_n O d_Pie_find_1 rfl ?_
  refine zi_aload_n O d_Pie_find_2 rfl ?_
  refine zi_callV O [0, 1, 2, 3, 4, 5, 6, 7, 8] c_Pie_18 k_Pie_findPieces (m_Pie_findPieces hn h hA PL pc co OC CE) d_Pie_find_3 ⟨(Nat.le_of_ble_eq_true rfl), (Nat.le_of_ble_eq_true rfl)⟩ ⟨(Nat.le_of_ble_eq_true rfl), (Nat.le_of_ble_eq_true rfl)⟩ rfl rfl (Nat.le_of_ble_eq_true rfl) rfl rfl rfl rfl rfl (Nat.le_of_ble_eq_true rfl) rfl (fun r h' hq hl => ?_)
  obtain ⟨rfl, OC', oc, rfl, h1, h2⟩ := hq
  refine zi_st (st' := []) rfl (zi_h (h' := peH (rc oc n) co OC' CE (2 * n) PL LB FR TO AT) rfl ?_)
  refine zi_aload_n O d_Pie_find_6 rfl ?_
  refine zi_aload_n O d_Pie_find_7 rfl ?_
  refine zi_callV O [0, 1, 2, 3, 4, 5, 6, 7, 8] c_Pie_22 k_Pie_countComponents (m_Pie_countComponents hn h hA PL (rc oc n) co OC' CE) d_Pie_find_8 ⟨(Nat.le_of_ble_eq_true rfl), (Nat.le_of_ble_eq_true rfl)⟩ ⟨(Nat.le_of_ble_eq_true rfl), (Nat.le_of_ble_eq_true rfl)⟩ rfl rfl (Nat.le_of_ble_eq_true rfl) rfl rfl rfl rfl rfl (Nat.le_of_ble_eq_true rfl) rfl (fun r h' hq hl => ?_)
  obtain ⟨rfl, rfl⟩ := hq
  refine zi_st (st' := []) rfl (zi_h (h' := peH (rc oc n) (FF (nxE to_ at_) (2 * n) (2 * n)).2 OC' (FF (nxE to_ at_) (2 * n) (2 * n)).1 (2 * n) PL LB FR TO AT) rfl ?_)
  refine zi_vret O d_Pie_find_11 (Nat.le_of_ble_eq_true rfl) (Nat.le_of_ble_eq_true rfl) (Nat.le_of_ble_eq_true rfl) ?_
  exact ⟨rfl, OC', oc, rfl, h1, h2⟩
