/-! Edges.find: (1) and (2), and the edges -/
theorem zb_t {q : Prop} [Decidable q] (h : q) : zb q = 1 := if_pos h
theorem zb_f {q : Prop} [Decidable q] (h : ¬ q) : zb q = 0 := if_neg h
theorem zb_iff {q r : Prop} [Decidable q] [Decidable r] : zb q = zb r ↔ (q ↔ r) := by
  unfold zb
  by_cases h1 : q <;> by_cases h2 : r <;> simp [h1, h2] <;> decide
abbrev gi (S : Nat → Int32) (q : Nat) : Prop := q = 4 * (q / 4) ∨ q = 4 * (q / 4) + up S (q / 4)
def TwoP (k : Nat) (lab P : Nat → Nat) : Prop := ∀ i, i < k → lab (P (2 * i)) = lab (P (2 * i + 1)) ∧ (0 < i → ¬ lab (P (2 * i)) = lab (P (2 * i - 2)))
def bf (lab P : Nat → Nat) : Nat → Int32
  | 0 => nI 0
  | k + 1 => nI (lab (P (2 * k)))
theorem m_Edg_everyLabelStandsTwice (m : Nat) (PL LB FR TO AT : Nat → Int32) (n : Nat) (L S : Nat → Int32) (lab P : Nat → Nat) (hR : RowOK n L lab) (hP : ∀ j, j < 4 * n → PL j = nI (P j)) (hS : SortP (4 * n) lab P) : zMet y_Edg_everyLabelStandsTwice b_Edg_everyLabelStandsTwice 5 (some .boolean) ⟨0, 0, 0, 0⟩ [.ref 0, .ref 6] (erH m PL LB FR TO AT n L S)
    (fun r h' => h' = erH m PL LB FR TO AT n L S ∧ ((r = some (.int 1) ∧ TwoP (2 * n) lab P) ∨ (r = some (.int 0) ∧ ¬ TwoP (2 * n) lab P))) := by
  obtain ⟨hn, hL⟩ := hR
  refine zMet_of (plainFor_of_name (by decide +kernel)) rfl (Nat.le_of_ble_eq_true rfl) (fun z1 z2 z3 z4 z5 z6 z7 z8 z9 z10 z11 z12 z13 z14 O hin => ?_)
  refine zi_ls (ls' := [some (.ref 0), some (.ref 6), none, none, none]) rfl ?_
  refine zi_iconstN O 0 d_Edg_everyLabelStandsTwice_0 (by decide) ?_
  refine zi_istore_n (ls' := _ :: _ :: some _ :: _) O d_Edg_everyLabelStandsTwice_1 rfl (by decide) rfl ?_
  refine zi_iconstN O 0 d_Edg_everyLabelStandsTwice_2 (by decide) ?_
  refine zi_istore_n (ls' := _ :: _ :: _ :: some _ :: _) O d_Edg_everyLabelStandsTwice_3 rfl (by decide) rfl ?_
  refine zi_loop (σ := Nat) (fun k => [some (.ref 0), some (.ref 6), some (.int (bf lab P k)), some (.int (nI (2 * k))), none]) (fun _ => erH m PL LB FR TO AT n L S) (fun k => k ≤ 2 * n ∧ TwoP k lab P) (fun k => 2 * n - k) 0 rfl rfl ⟨Nat.zero_le _, fun i hi => absurd hi (Nat.not_lt_zero i)⟩ ?_
  intro k hk ih
  obtain ⟨hk, hT⟩ := hk
  refine zi_iload_n O d_Edg_everyLabelStandsTwice_4 rfl ?_
  refine zi_iconstN O 1 d_Edg_everyLabelStandsTwice_5 (by decide) ?_
  first | refine zi_iaddN O d_Edg_everyLabelStandsTwice_6 ?_ | refine zi_iadd O d_Edg_everyLabelStandsTwice_6 ?_
  refine zi_iconstN O 4 d_Edg_everyLabelStandsTwice_7 (by decide) ?_
  refine zi_aload_n O d_Edg_everyLabelStandsTwice_8 rfl ?_
  refine zi_get O f_Edg_38 d_Edg_everyLabelStandsTwice_9 rfl rfl ?_
  first | refine zi_imulN O d_Edg_everyLabelStandsTwice_12 ?_ | refine zi_imul O d_Edg_everyLabelStandsTwice_12 ?_
  refine zi_icmp_geN O 64 d_Edg_everyLabelStandsTwice_13 (by decide) (by omega) (by omega) (fun c13 => ?_) (fun c13 => ?_)
  · refine zi_iconstN O 1 d_Edg_everyLabelStandsTwice_64 (by decide) ?_
    refine zi_zret O d_Edg_everyLabelStandsTwice_65 rfl (Nat.le_of_ble_eq_true rfl) (Nat.le_of_ble_eq_true rfl) (Nat.le_of_ble_eq_true rfl) ?_
    have : k = 2 * n := by omega
    subst this
    exact ⟨rfl, Or.inl ⟨rfl, hT⟩⟩
  · have a1 := hS.1 (2 * k) (by omega)
    have a2 := hS.1 (2 * k + 1) (by omega)
    have b1 := (hL (P (2 * k)) (by omega)).2
    have b2 := (hL (P (2 * k + 1)) (by omega)).2
    refine zi_aload_n O d_Edg_everyLabelStandsTwice_16 rfl ?_
    refine zi_get O f_Edg_44 d_Edg_everyLabelStandsTwice_17 rfl rfl ?_
    refine zi_aload_n O d_Edg_everyLabelStandsTwice_20 rfl ?_
    refine zi_get O f_Edg_9 d_Edg_everyLabelStandsTwice_21 rfl rfl ?_
    refine zi_iload_n O d_Edg_everyLabelStandsTwice_24 rfl ?_
    refine zi_iald O d_Edg_everyLabelStandsTwice_25 rfl rfl (by omega) (Nat.le_of_ble_eq_true rfl) ?_
    rw [hP (2 * k) (by omega)]
    refine zi_iald O d_Edg_everyLabelStandsTwice_26 rfl rfl (by omega) (Nat.le_of_ble_eq_true rfl) ?_
    rw [(hL (P (2 * k)) (by omega)).1]
    refine zi_istore (ls' := _ :: _ :: _ :: _ :: some _ :: _) O d_Edg_everyLabelStandsTwice_27 rfl (by decide) rfl ?_
    refine zi_iload O d_Edg_everyLabelStandsTwice_29 rfl ?_
    refine zi_iload_n O d_Edg_everyLabelStandsTwice_31 rfl ?_
    refine zi_icmp_eq O 53 d_Edg_everyLabelStandsTwice_32 (by decide) (fun c32 => ?_) (fun c32 => ?_)
    · refine zi_iconstN O 0 d_Edg_everyLabelStandsTwice_53 (by decide) ?_
      refine zi_zret O d_Edg_everyLabelStandsTwice_54 rfl (Nat.le_of_ble_eq_true rfl) (Nat.le_of_ble_eq_true rfl) (Nat.le_of_ble_eq_true rfl) ?_
      refine ⟨rfl, Or.inr ⟨rfl, fun hz => ?_⟩⟩
      cases k with
      | zero => exact absurd c32 (by show ¬ nI _ = nI 0; rw [nI_eq (by omega) (by omega)]; omega)
      | succ k =>
        have b3 := (hL (P (2 * k)) (by have := hS.1 (2 * k) (by omega); omega)).2
        have c := (nI_eq (by omega) (by omega)).mp c32
        exact (hz (k + 1) (by omega)).2 (by omega) c
    · refine zi_iload O d_Edg_everyLabelStandsTwice_35 rfl ?_
      refine zi_aload_n O d_Edg_everyLabelStandsTwice_37 rfl ?_
      refine zi_get O f_Edg_44 d_Edg_everyLabelStandsTwice_38 rfl rfl ?_
      refine zi_aload_n O d_Edg_everyLabelStandsTwice_41 rfl ?_
      refine zi_get O f_Edg_9 d_Edg_everyLabelStandsTwice_42 rfl rfl ?_
      refine zi_iload_n O d_Edg_everyLabelStandsTwice_45 rfl ?_
      refine zi_iconstN O 1 d_Edg_everyLabelStandsTwice_46 (by decide) ?_
      first | refine zi_iaddN O d_Edg_everyLabelStandsTwice_47 ?_ | refine zi_iadd O d_Edg_everyLabelStandsTwice_47 ?_
      refine zi_iald O d_Edg_everyLabelStandsTwice_48 rfl rfl (by omega) (Nat.le_of_ble_eq_true rfl) ?_
      rw [hP (2 * k + 1) (by omega)]
      refine zi_iald O d_Edg_everyLabelStandsTwice_49 rfl rfl (by omega) (Nat.le_of_ble_eq_true rfl) ?_
      rw [(hL (P (2 * k + 1)) (by omega)).1]
      refine zi_icmp_eqN O 55 d_Edg_everyLabelStandsTwice_50 (by decide) (by omega) (by omega) (fun c50 => ?_) (fun c50 => ?_)
      · refine zi_iload O d_Edg_everyLabelStandsTwice_55 rfl ?_
        refine zi_istore_n (ls' := _ :: _ :: some _ :: _) O d_Edg_everyLabelStandsTwice_57 rfl (by decide) rfl ?_
        refine zi_iincN (ls' := _ :: _ :: _ :: some _ :: _) O 2 d_Edg_everyLabelStandsTwice_58 rfl (by decide) rfl (by decide) rfl ?_
        refine zi_goto O 4 d_Edg_everyLabelStandsTwice_61 (by decide) ?_
        refine zi_no 4 (ls' := _ :: _ :: _ :: _ :: none :: _) rfl ?_
        refine ih (k + 1) ⟨by omega, fun i hi => ?_⟩ (by omega)
        by_cases c1 : i = k
        · subst c1
          refine ⟨c50, fun h0 hz => c32 ?_⟩
          cases i with
          | zero => omega
          | succ i => show nI _ = nI _; rw [hz]; rfl
        · exact hT i (by omega)
      · refine zi_iconstN O 0 d_Edg_everyLabelStandsTwice_53 (by decide) ?_
        refine zi_zret O d_Edg_everyLabelStandsTwice_54 rfl (Nat.le_of_ble_eq_true rfl) (Nat.le_of_ble_eq_true rfl) (Nat.le_of_ble_eq_true rfl) ?_
        exact ⟨rfl, Or.inr ⟨rfl, fun hz => c50 (hz k (by omega)).1⟩⟩
def KindP (k : Nat) (S : Nat → Int32) (P : Nat → Nat) : Prop := ∀ e, e < k → ¬ (gi S (P (2 * e)) ↔ gi S (P (2 * e + 1)))
def PairP (k : Nat) (S : Nat → Int32) (lab P : Nat → Nat) (LB FR TO AT : Nat → Int32) : Prop := ∀ e, e < k → FR e = nI (if gi S (P (2 * e)) then P (2 * e + 1) else P (2 * e)) ∧ TO e = nI (if gi S (P (2 * e)) then P (2 * e) else P (2 * e + 1)) ∧ LB e = nI (lab (P (2 * e))) ∧ AT (P (2 * e)) = nI e ∧ AT (P (2 * e + 1)) = nI e
set_option maxHeartbeats 1000000 in
theorem m_Edg_pairPlaces (m : Nat) (PL LB FR TO AT : Nat → Int32) (n : Nat) (L S : Nat → Int32) (lab P : Nat → Nat) (hR : RowOK n L lab) (hP : ∀ j, j < 4 * n → PL j = nI (P j)) (hS : SortP (4 * n) lab P) : zMet y_Edg_pairPlaces b_Edg_pairPlaces 6 (some .boolean) ⟨2, 0, 0, 50⟩ [.ref 0, .ref 6] (erH m PL LB FR TO AT n L S)
    (fun r h' => ∃ (LB' FR' TO' AT' : Nat → Int32), h' = erH (2 * n) PL LB' FR' TO' AT' n L S ∧ ((r = some (.int 1) ∧ KindP (2 * n) S P ∧ PairP (2 * n) S lab P LB' FR' TO' AT') ∨ (r = some (.int 0) ∧ ¬ KindP (2 * n) S P))) := by
  obtain ⟨hn, hL⟩ := hR
  refine zMet_of (plainFor_of_name (by decide +kernel)) rfl (Nat.le_of_ble_eq_true rfl) (fun z1 z2 z3 z4 z5 z6 z7 z8 z9 z10 z11 z12 z13 z14 O hin => ?_)
  refine zi_ls (ls' := [some (.ref 0), some (.ref 6), none, none, none, none]) rfl ?_
  refine zi_aload_n O d_Edg_pairPlaces_0 rfl ?_
  refine zi_iconstN O 2 d_Edg_pairPlaces_1 (by decide) ?_
  refine zi_aload_n O d_Edg_pairPlaces_2 rfl ?_
  refine zi_get O f_Edg_38 d_Edg_pairPlaces_3 rfl rfl ?_
  first | refine zi_imulN O d_Edg_pairPlaces_6 ?_ | refine zi_imul O d_Edg_pairPlaces_6 ?_
  refine zi_put O f_Edg_45 d_Edg_pairPlaces_7 rfl (Nat.le_of_ble_eq_true rfl) (fun _ => rfl) (fun _ => rfl) (by dsimp only [List.set]) ?_
  refine zi_iconstN O 0 d_Edg_pairPlaces_10 (by decide) ?_
  refine zi_istore_n (ls' := _ :: _ :: some _ :: _) O d_Edg_pairPlaces_11 rfl (by decide) rfl ?_
  refine zi_loop (σ := Nat × (Nat → Int32) × (Nat → Int32) × (Nat → Int32) × (Nat → Int32)) (fun x => [some (.ref 0), some (.ref 6), some (.int (nI x.1)), none, none, none]) (fun x => erH (2 * n) PL x.2.1 x.2.2.1 x.2.2.2.1 x.2.2.2.2 n L S) (fun x => x.1 ≤ 2 * n ∧ KindP x.1 S P ∧ PairP x.1 S lab P x.2.1 x.2.2.1 x.2.2.2.1 x.2.2.2.2) (fun x => 2 * n - x.1) (0, LB, FR, TO, AT) rfl rfl ⟨Nat.zero_le _, fun i hi => absurd hi (Nat.not_lt_zero i), fun i hi => absurd hi (Nat.not_lt_zero i)⟩ ?_
  rintro ⟨k, LK, FK, TK, AK⟩ ⟨hk, hK, hE⟩ ih
  dsimp only at hk hK hE ih ⊢
  refine zi_iload_n O d_Edg_pairPlaces_12 rfl ?_
  refine zi_aload_n O d_Edg_pairPlaces_13 rfl ?_
  refine zi_get O f_Edg_45 d_Edg_pairPlaces_14 rfl rfl ?_
  refine zi_icmp_geN O 128 d_Edg_pairPlaces_17 (by decide) (by omega) (by omega) (fun c17 => ?_) (fun c17 => ?_)
  · refine zi_iconstN O 1 d_Edg_pairPlaces_128 (by decide) ?_
    refine zi_zret O d_Edg_pairPlaces_129 rfl (Nat.le_of_ble_eq_true rfl) (Nat.le_of_ble_eq_true rfl) (Nat.le_of_ble_eq_true rfl) ?_
    have : k = 2 * n := by omega
    subst this
    exact ⟨LK, FK, TK, AK, rfl, Or.inl ⟨rfl, hK, hE⟩⟩
  · have a1 := hS.1 (2 * k) (by omega)
    have a2 := hS.1 (2 * k + 1) (by omega)
    refine zi_aload_n O d_Edg_pairPlaces_20 rfl ?_
    refine zi_get O f_Edg_9 d_Edg_pairPlaces_21 rfl rfl ?_
    refine zi_iconstN O 2 d_Edg_pairPlaces_24 (by decide) ?_
    refine zi_iload_n O d_Edg_pairPlaces_25 rfl ?_
    first | refine zi_imulN O d_Edg_pairPlaces_26 ?_ | refine zi_imul O d_Edg_pairPlaces_26 ?_
    refine zi_iald O d_Edg_pairPlaces_27 rfl rfl (by omega) (Nat.le_of_ble_eq_true rfl) ?_
    rw [hP (2 * k) (by omega)]
    refine zi_istore_n (ls' := _ :: _ :: _ :: some _ :: _) O d_Edg_pairPlaces_28 rfl (by decide) rfl ?_
    refine zi_aload_n O d_Edg_pairPlaces_29 rfl ?_
    refine zi_get O f_Edg_9 d_Edg_pairPlaces_30 rfl rfl ?_
    refine zi_iconstN O 2 d_Edg_pairPlaces_33 (by decide) ?_
    refine zi_iload_n O d_Edg_pairPlaces_34 rfl ?_
    first | refine zi_imulN O d_Edg_pairPlaces_35 ?_ | refine zi_imul O d_Edg_pairPlaces_35 ?_
    refine zi_iconstN O 1 d_Edg_pairPlaces_36 (by decide) ?_
    first | refine zi_iaddN O d_Edg_pairPlaces_37 ?_ | refine zi_iadd O d_Edg_pairPlaces_37 ?_
    refine zi_iald O d_Edg_pairPlaces_38 rfl rfl (by omega) (Nat.le_of_ble_eq_true rfl) ?_
    rw [hP (2 * k + 1) (by omega)]
    refine zi_istore (ls' := _ :: _ :: _ :: _ :: some _ :: _) O d_Edg_pairPlaces_39 rfl (by decide) rfl ?_
    refine zi_aload_n O d_Edg_pairPlaces_41 rfl ?_
    refine zi_iload_n O d_Edg_pairPlaces_42 rfl ?_
    refine zi_pureV O [6, 7, 8] c_Edg_46 k_Row_strandGoesIn (m_Row_strandGoesIn n L S (P (2 * k)) (by omega)) d_Edg_pairPlaces_43 ⟨(Nat.le_of_ble_eq_true rfl), (Nat.le_of_ble_eq_true rfl)⟩ ⟨(Nat.le_of_ble_eq_true rfl), (Nat.le_of_ble_eq_true rfl)⟩ rfl rfl (Nat.le_of_ble_eq_true rfl) rfl rfl rfl rfl rfl (Nat.le_of_ble_eq_true rfl) rfl ?_
    refine zi_istore (ls' := _ :: _ :: _ :: _ :: _ :: some _ :: _) O d_Edg_pairPlaces_46 rfl (by decide) rfl ?_
    refine zi_iload O d_Edg_pairPlaces_48 rfl ?_
    refine zi_aload_n O d_Edg_pairPlaces_50 rfl ?_
    refine zi_iload O d_Edg_pairPlaces_51 rfl ?_
    refine zi_pureV O [6, 7, 8] c_Edg_46 k_Row_strandGoesIn (m_Row_strandGoesIn n L S (P (2 * k + 1)) (by omega)) d_Edg_pairPlaces_53 ⟨(Nat.le_of_ble_eq_true rfl), (Nat.le_of_ble_eq_true rfl)⟩ ⟨(Nat.le_of_ble_eq_true rfl), (Nat.le_of_ble_eq_true rfl)⟩ rfl rfl (Nat.le_of_ble_eq_true rfl) rfl rfl rfl rfl rfl (Nat.le_of_ble_eq_true rfl) rfl ?_
    have fin : ∀ (x y : Nat), x = (if gi S (P (2 * k)) then P (2 * k + 1) else P (2 * k)) → y = (if gi S (P (2 * k)) then P (2 * k) else P (2 * k + 1)) → ¬ (gi S (P (2 * k)) ↔ gi S (P (2 * k + 1))) → KindP (k + 1) S P ∧ PairP (k + 1) S lab P (upd LK k (nI (lab (P (2 * k))))) (upd FK k (nI x)) (upd TK k (nI y)) (upd (upd AK (P (2 * k)) (nI k)) (P (2 * k + 1)) (nI k)) := by
      intro x y hx hy hg
      refine ⟨fun e he => ?_, fun e he => ?_⟩
      · by_cases c1 : e = k
        · rw [c1]; exact hg
        · exact hK e (by omega)
      · by_cases c1 : e = k
        · rw [c1]
          unfold upd
          refine ⟨by rw [if_pos rfl, hx], by rw [if_pos rfl, hy], by rw [if_pos rfl], ?_, by rw [if_pos rfl]⟩
          split
          · rfl
          · rw [if_pos rfl]
        · obtain ⟨e1, e2, e3, e4, e5⟩ := hE e (by omega)
          have d1 : ∀ i j, i < 2 * k → j < 4 * n → 2 * k ≤ j → ¬ P i = P j := fun i j q1 q2 q3 z => by
            have := hS.2.1 i j (by omega) q2 z
            omega
          unfold upd
          refine ⟨by rw [if_neg c1, e1], by rw [if_neg c1, e2], by rw [if_neg c1, e3], ?_, ?_⟩
          · rw [if_neg (d1 _ _ (by omega) (by omega) (by omega)), if_neg (d1 _ _ (by omega) (by omega) (by omega)), e4]
          · rw [if_neg (d1 _ _ (by omega) (by omega) (by omega)), if_neg (d1 _ _ (by omega) (by omega) (by omega)), e5]
    refine zi_icmp_ne O 61 d_Edg_pairPlaces_56 (by decide) (fun c56 => ?_) (fun c56 => ?_)
    · have hg : ¬ (gi S (P (2 * k)) ↔ gi S (P (2 * k + 1))) := fun z => c56 (zb_iff.mpr z)
      by_cases hA : gi S (P (2 * k))
      · rw [zb_t hA]
        refine zi_aload_n O d_Edg_pairPlaces_61 rfl ?_
        refine zi_get O f_Edg_18 d_Edg_pairPlaces_62 rfl rfl ?_
        refine zi_iload_n O d_Edg_pairPlaces_65 rfl ?_
        refine zi_iload O d_Edg_pairPlaces_66 rfl ?_
        refine zi_if_eq O 76 d_Edg_pairPlaces_68 (by decide) (fun c68 => ?_) (fun c68 => ?_)
        · exact absurd c68 (by decide)
        · refine zi_iload O d_Edg_pairPlaces_71 rfl ?_
          refine zi_goto O 77 d_Edg_pairPlaces_73 (by decide) ?_
          refine zi_iast O d_Edg_pairPlaces_77 rfl rfl (by omega) (Nat.le_of_ble_eq_true rfl) (by dsimp only [List.set]) ?_
          refine zi_aload_n O d_Edg_pairPlaces_78 rfl ?_
          refine zi_get O f_Edg_21 d_Edg_pairPlaces_79 rfl rfl ?_
          refine zi_iload_n O d_Edg_pairPlaces_82 rfl ?_
          refine zi_iload O d_Edg_pairPlaces_83 rfl ?_
          refine zi_if_eq O 92 d_Edg_pairPlaces_85 (by decide) (fun c85 => ?_) (fun c85 => ?_)
          · exact absurd c85 (by decide)
          · refine zi_iload_n O d_Edg_pairPlaces_88 rfl ?_
            refine zi_goto O 94 d_Edg_pairPlaces_89 (by decide) ?_
            refine zi_iast O d_Edg_pairPlaces_94 rfl rfl (by omega) (Nat.le_of_ble_eq_true rfl) (by dsimp only [List.set]) ?_
            refine zi_aload_n O d_Edg_pairPlaces_95 rfl ?_
            refine zi_get O f_Edg_15 d_Edg_pairPlaces_96 rfl rfl ?_
            refine zi_iload_n O d_Edg_pairPlaces_99 rfl ?_
            refine zi_aload_n O d_Edg_pairPlaces_100 rfl ?_
            refine zi_get O f_Edg_44 d_Edg_pairPlaces_101 rfl rfl ?_
            refine zi_iload_n O d_Edg_pairPlaces_104 rfl ?_
            refine zi_iald O d_Edg_pairPlaces_105 rfl rfl (by omega) (Nat.le_of_ble_eq_true rfl) ?_
            rw [(hL (P (2 * k)) (by omega)).1]
            refine zi_iast O d_Edg_pairPlaces_106 rfl rfl (by omega) (Nat.le_of_ble_eq_true rfl) (by dsimp only [List.set]) ?_
            refine zi_aload_n O d_Edg_pairPlaces_107 rfl ?_
            refine zi_get O f_Edg_24 d_Edg_pairPlaces_108 rfl rfl ?_
            refine zi_iload_n O d_Edg_pairPlaces_111 rfl ?_
            refine zi_iload_n O d_Edg_pairPlaces_112 rfl ?_
            refine zi_iast O d_Edg_pairPlaces_113 rfl rfl (by omega) (Nat.le_of_ble_eq_true rfl) (by dsimp only [List.set]) ?_
            refine zi_aload_n O d_Edg_pairPlaces_114 rfl ?_
            refine zi_get O f_Edg_24 d_Edg_pairPlaces_115 rfl rfl ?_
            refine zi_iload O d_Edg_pairPlaces_118 rfl ?_
            refine zi_iload_n O d_Edg_pairPlaces_120 rfl ?_
            refine zi_iast O d_Edg_pairPlaces_121 rfl rfl (by omega) (Nat.le_of_ble_eq_true rfl) (by dsimp only [List.set]) ?_
            refine zi_iincN (ls' := _ :: _ :: some _ :: _) O 1 d_Edg_pairPlaces_122 rfl (by decide) rfl (by decide) rfl ?_
            refine zi_goto O 12 d_Edg_pairPlaces_125 (by decide) ?_
            refine zi_no 3 (ls' := _ :: _ :: _ :: none :: _) rfl ?_
            refine zi_no 4 (ls' := _ :: _ :: _ :: _ :: none :: _) rfl ?_
            refine zi_no 5 (ls' := _ :: _ :: _ :: _ :: _ :: none :: _) rfl ?_
            obtain ⟨q1, q2⟩ := fin (P (2 * k + 1)) (P (2 * k)) (by rw [if_pos hA]) (by rw [if_pos hA]) hg
            exact ih (k + 1, _, _, _, _) ⟨by dsimp only; omega, q1, q2⟩ (by dsimp only; omega)
      · rw [zb_f hA]
        refine zi_aload_n O d_Edg_pairPlaces_61 rfl ?_
        refine zi_get O f_Edg_18 d_Edg_pairPlaces_62 rfl rfl ?_
        refine zi_iload_n O d_Edg_pairPlaces_65 rfl ?_
        refine zi_iload O d_Edg_pairPlaces_66 rfl ?_
        refine zi_if_eq O 76 d_Edg_pairPlaces_68 (by decide) (fun c68 => ?_) (fun c68 => ?_)
        · refine zi_iload_n O d_Edg_pairPlaces_76 rfl ?_
          refine zi_iast O d_Edg_pairPlaces_77 rfl rfl (by omega) (Nat.le_of_ble_eq_true rfl) (by dsimp only [List.set]) ?_
          refine zi_aload_n O d_Edg_pairPlaces_78 rfl ?_
          refine zi_get O f_Edg_21 d_Edg_pairPlaces_79 rfl rfl ?_
          refine zi_iload_n O d_Edg_pairPlaces_82 rfl ?_
          refine zi_iload O d_Edg_pairPlaces_83 rfl ?_
          refine zi_if_eq O 92 d_Edg_pairPlaces_85 (by decide) (fun c85 => ?_) (fun c85 => ?_)
          · refine zi_iload O d_Edg_pairPlaces_92 rfl ?_
            refine zi_iast O d_Edg_pairPlaces_94 rfl rfl (by omega) (Nat.le_of_ble_eq_true rfl) (by dsimp only [List.set]) ?_
            refine zi_aload_n O d_Edg_pairPlaces_95 rfl ?_
            refine zi_get O f_Edg_15 d_Edg_pairPlaces_96 rfl rfl ?_
            refine zi_iload_n O d_Edg_pairPlaces_99 rfl ?_
            refine zi_aload_n O d_Edg_pairPlaces_100 rfl ?_
            refine zi_get O f_Edg_44 d_Edg_pairPlaces_101 rfl rfl ?_
            refine zi_iload_n O d_Edg_pairPlaces_104 rfl ?_
            refine zi_iald O d_Edg_pairPlaces_105 rfl rfl (by omega) (Nat.le_of_ble_eq_true rfl) ?_
            rw [(hL (P (2 * k)) (by omega)).1]
            refine zi_iast O d_Edg_pairPlaces_106 rfl rfl (by omega) (Nat.le_of_ble_eq_true rfl) (by dsimp only [List.set]) ?_
            refine zi_aload_n O d_Edg_pairPlaces_107 rfl ?_
            refine zi_get O f_Edg_24 d_Edg_pairPlaces_108 rfl rfl ?_
            refine zi_iload_n O d_Edg_pairPlaces_111 rfl ?_
            refine zi_iload_n O d_Edg_pairPlaces_112 rfl ?_
            refine zi_iast O d_Edg_pairPlaces_113 rfl rfl (by omega) (Nat.le_of_ble_eq_true rfl) (by dsimp only [List.set]) ?_
            refine zi_aload_n O d_Edg_pairPlaces_114 rfl ?_
            refine zi_get O f_Edg_24 d_Edg_pairPlaces_115 rfl rfl ?_
            refine zi_iload O d_Edg_pairPlaces_118 rfl ?_
            refine zi_iload_n O d_Edg_pairPlaces_120 rfl ?_
            refine zi_iast O d_Edg_pairPlaces_121 rfl rfl (by omega) (Nat.le_of_ble_eq_true rfl) (by dsimp only [List.set]) ?_
            refine zi_iincN (ls' := _ :: _ :: some _ :: _) O 1 d_Edg_pairPlaces_122 rfl (by decide) rfl (by decide) rfl ?_
            refine zi_goto O 12 d_Edg_pairPlaces_125 (by decide) ?_
            refine zi_no 3 (ls' := _ :: _ :: _ :: none :: _) rfl ?_
            refine zi_no 4 (ls' := _ :: _ :: _ :: _ :: none :: _) rfl ?_
            refine zi_no 5 (ls' := _ :: _ :: _ :: _ :: _ :: none :: _) rfl ?_
            obtain ⟨q1, q2⟩ := fin (P (2 * k)) (P (2 * k + 1)) (by rw [if_neg hA]) (by rw [if_neg hA]) hg
            exact ih (k + 1, _, _, _, _) ⟨by dsimp only; omega, q1, q2⟩ (by dsimp only; omega)
          · exact absurd rfl c85
        · exact absurd rfl c68
    · refine zi_iconstN O 0 d_Edg_pairPlaces_59 (by decide) ?_
      refine zi_zret O d_Edg_pairPlaces_60 rfl (Nat.le_of_ble_eq_true rfl) (Nat.le_of_ble_eq_true rfl) (Nat.le_of_ble_eq_true rfl) ?_
      exact ⟨LK, FK, TK, AK, rfl, Or.inr ⟨rfl, fun z => z k (by omega) (zb_iff.mp c56)⟩⟩
