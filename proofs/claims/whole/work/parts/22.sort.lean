/-! Edges.find: the places by their labels, the labels two by two -/
abbrev erH (m : Nat) (PL LB FR TO AT : Nat → Int32) (n : Nat) (L S : Nat → Int32) : List zE := [zo 3 [.ref 1, .ref 2, .ref 3, .ref 4, .ref 5, .int (nI m)], za 80 PL, za 40 LB, za 40 FR, za 40 TO, za 80 AT, zo 2 [.ref 7, .ref 8, .int (nI n)], za 80 L, za 20 S]
def RowOK (n : Nat) (L : Nat → Int32) (lab : Nat → Nat) : Prop := n ≤ 20 ∧ ∀ q, q < 4 * n → L q = nI (lab q) ∧ 1 ≤ lab q ∧ lab q ≤ 9999
def SortP (k : Nat) (lab P : Nat → Nat) : Prop := (∀ j, j < k → P j < k) ∧ (∀ i j, i < k → j < k → P i = P j → i = j) ∧ (∀ j, j + 1 < k → lab (P j) ≤ lab (P (j + 1))) ∧ ∀ q, q < k → ∃ j, j < k ∧ P j = q
theorem sortP_ins {k t : Nat} {lab P : Nat → Nat} (h : SortP k lab P) (ht : t ≤ k) (hlo : 0 < t → lab (P (t - 1)) ≤ lab k) (hhi : ∀ j, t ≤ j → j < k → lab k < lab (P j)) : SortP (k + 1) lab (fun j => if j < t then P j else if j = t then k else P (j - 1)) := by
  obtain ⟨h1, h2, h3, h4⟩ := h
  refine ⟨fun j hj => ?_, fun i j hi hj hij => ?_, fun j hj => ?_, fun q hq => ?_⟩
  · dsimp only
    split
    · have := h1 j (by omega); omega
    · split
      · omega
      · have := h1 (j - 1) (by omega); omega
  · dsimp only at hij
    have a1 : ∀ j, j < k → P j ≠ k := fun j hj => by have := h1 j hj; omega
    split at hij
    · split at hij
      · exact h2 i j (by omega) (by omega) hij
      · split at hij
        · exact absurd hij (a1 i (by omega))
        · have := h2 i (j - 1) (by omega) (by omega) hij; omega
    · split at hij
      · split at hij
        · exact absurd hij.symm (a1 j (by omega))
        · split at hij
          · omega
          · exact absurd hij.symm (a1 (j - 1) (by omega))
      · split at hij
        · have := h2 (i - 1) j (by omega) (by omega) hij; omega
        · split at hij
          · exact absurd hij (a1 (i - 1) (by omega))
          · have := h2 (i - 1) (j - 1) (by omega) (by omega) hij; omega
  · dsimp only
    by_cases c1 : j + 1 < t
    · rw [if_pos (by omega), if_pos c1]; exact h3 j (by omega)
    · by_cases c2 : j + 1 = t
      · rw [if_pos (by omega), if_neg (by omega), if_pos c2]
        have := hlo (by omega)
        rw [show t - 1 = j by omega] at this
        exact this
      · by_cases c3 : j = t
        · rw [if_neg (by omega), if_pos c3, if_neg (by omega), if_neg (by omega)]
          exact Nat.le_of_lt (hhi (j + 1 - 1) (by omega) (by omega))
        · rw [if_neg (by omega), if_neg c3, if_neg (by omega), if_neg (by omega)]
          have := h3 (j - 1) (by omega)
          rw [show j - 1 + 1 = j + 1 - 1 by omega] at this
          exact this
  · by_cases c1 : q = k
    · refine ⟨t, by omega, ?_⟩
      dsimp only
      rw [if_neg (by omega), if_pos rfl, c1]
    · obtain ⟨j, a1, a2⟩ := h4 q (by omega)
      by_cases c2 : j < t
      · refine ⟨j, by omega, ?_⟩
        dsimp only
        rw [if_pos c2, a2]
      · refine ⟨j + 1, by omega, ?_⟩
        dsimp only
        rw [if_neg (by omega), if_neg (by omega)]
        exact a2
set_option maxHeartbeats 1000000 in
theorem m_Edg_sortPlaces (m : Nat) (PL LB FR TO AT : Nat → Int32) (n : Nat) (L S : Nat → Int32) (lab : Nat → Nat) (hR : RowOK n L lab) : zMet y_Edg_sortPlaces b_Edg_sortPlaces 5 none ⟨0, 0, 0, 0⟩ [.ref 0, .ref 6] (erH m PL LB FR TO AT n L S)
    (fun r h' => r = none ∧ ∃ (PL' : Nat → Int32) (P : Nat → Nat), h' = erH m PL' LB FR TO AT n L S ∧ (∀ j, j < 4 * n → PL' j = nI (P j)) ∧ SortP (4 * n) lab P) := by
  obtain ⟨hn, hL⟩ := hR
  refine zMet_of (plainFor_of_name (by decide +kernel)) rfl (Nat.le_of_ble_eq_true rfl) (fun z1 z2 z3 z4 z5 z6 z7 z8 z9 z10 z11 z12 z13 z14 O hin => ?_)
  refine zi_ls (ls' := [some (.ref 0), some (.ref 6), none, none, none]) rfl ?_
  refine zi_iconstN O 0 d_Edg_sortPlaces_0 (by decide) ?_
  refine zi_istore_n (ls' := _ :: _ :: some _ :: _) O d_Edg_sortPlaces_1 rfl (by decide) rfl ?_
  refine zi_loop (σ := Nat × (Nat → Int32)) (fun x => [some (.ref 0), some (.ref 6), some (.int (nI x.1)), none, none]) (fun x => erH m x.2 LB FR TO AT n L S)
    (fun x => x.1 ≤ 4 * n ∧ ∃ P : Nat → Nat, (∀ j, j < x.1 → x.2 j = nI (P j)) ∧ SortP x.1 lab P) (fun x => 4 * n - x.1) (0, PL) rfl rfl ⟨Nat.zero_le _, fun j => j, fun j hj => absurd hj (Nat.not_lt_zero j), fun j hj => absurd hj (Nat.not_lt_zero j), fun i j hi => absurd hi (Nat.not_lt_zero i), fun j hj => absurd hj (Nat.not_lt_zero _), fun j hj => absurd hj (Nat.not_lt_zero _)⟩ ?_
  rintro ⟨k, PK⟩ ⟨hk, P, hP, hS⟩ ih
  dsimp only at hk hP hS ih ⊢
  refine zi_iload_n O d_Edg_sortPlaces_2 rfl ?_
  refine zi_iconstN O 4 d_Edg_sortPlaces_3 (by decide) ?_
  refine zi_aload_n O d_Edg_sortPlaces_4 rfl ?_
  refine zi_get O f_Edg_38 d_Edg_sortPlaces_5 rfl rfl ?_
  first | refine zi_imulN O d_Edg_sortPlaces_8 ?_ | refine zi_imul O d_Edg_sortPlaces_8 ?_
  refine zi_icmp_geN O 81 d_Edg_sortPlaces_9 (by decide) (by omega) (by omega) (fun c9 => ?_) (fun c9 => ?_)
  · refine zi_vret O d_Edg_sortPlaces_81 (Nat.le_of_ble_eq_true rfl) (Nat.le_of_ble_eq_true rfl) (Nat.le_of_ble_eq_true rfl) ?_
    have : k = 4 * n := by omega
    subst this
    exact ⟨rfl, PK, P, rfl, hP, hS⟩
  · refine zi_aload_n O d_Edg_sortPlaces_12 rfl ?_
    refine zi_get O f_Edg_44 d_Edg_sortPlaces_13 rfl rfl ?_
    refine zi_iload_n O d_Edg_sortPlaces_16 rfl ?_
    refine zi_iald O d_Edg_sortPlaces_17 rfl rfl (by omega) (Nat.le_of_ble_eq_true rfl) ?_
    rw [(hL k (by omega)).1]
    refine zi_istore_n (ls' := _ :: _ :: _ :: some _ :: _) O d_Edg_sortPlaces_18 rfl (by decide) rfl ?_
    refine zi_iload_n O d_Edg_sortPlaces_19 rfl ?_
    refine zi_istore (ls' := _ :: _ :: _ :: _ :: some _ :: _) O d_Edg_sortPlaces_20 rfl (by decide) rfl ?_
    refine zi_loop (σ := Nat × (Nat → Int32)) (fun x => [some (.ref 0), some (.ref 6), some (.int (nI k)), some (.int (nI (lab k))), some (.int (nI x.1))]) (fun x => erH m x.2 LB FR TO AT n L S)
      (fun x => x.1 ≤ k ∧ (∀ j, j < x.1 → x.2 j = nI (P j)) ∧ (∀ j, x.1 < j → j ≤ k → x.2 j = nI (P (j - 1))) ∧ ∀ j, x.1 ≤ j → j < k → lab k < lab (P j)) (fun x => x.1) (k, PK) rfl rfl ⟨Nat.le_refl _, hP, fun j h1 h2 => absurd h1 (by omega), fun j h1 h2 => absurd h1 (by omega)⟩ ?_
    rintro ⟨t, PT⟩ ⟨ht, hlo, hhi, hgt⟩ ih2
    dsimp only at ht hlo hhi hgt ih2 ⊢
    have hlk := (hL k (by omega)).2
    have fin : (0 < t → lab (P (t - 1)) ≤ lab k) → zG z1 z2 z3 z4 z5 z6 z7 z8 z9 z10 z11 z12 z13 z14 9 5 (fun r h' => r = none ∧ ∃ (PL' : Nat → Int32) (P : Nat → Nat), h' = erH m PL' LB FR TO AT n L S ∧ (∀ j, j < 4 * n → PL' j = nI (P j)) ∧ SortP (4 * n) lab P) 0 0 0 0 67 [some (.ref 0), some (.ref 6), some (.int (nI k)), some (.int (nI (lab k))), some (.int (nI t))] [] (erH m PT LB FR TO AT n L S) := by
      intro hst
      refine zi_aload_n O d_Edg_sortPlaces_67 rfl ?_
      refine zi_get O f_Edg_9 d_Edg_sortPlaces_68 rfl rfl ?_
      refine zi_iload O d_Edg_sortPlaces_71 rfl ?_
      refine zi_iload_n O d_Edg_sortPlaces_73 rfl ?_
      refine zi_iast O d_Edg_sortPlaces_74 rfl rfl (by omega) (Nat.le_of_ble_eq_true rfl) (by dsimp only [List.set]) ?_
      refine zi_iincN (ls' := _ :: _ :: some _ :: _) O 1 d_Edg_sortPlaces_75 rfl (by decide) rfl (by decide) rfl ?_
      refine zi_goto O 2 d_Edg_sortPlaces_78 (by decide) ?_
      refine zi_no 3 (ls' := _ :: _ :: _ :: none :: _) rfl ?_
      refine zi_no 4 (ls' := _ :: _ :: _ :: _ :: none :: _) rfl ?_
      refine ih (k + 1, upd PT t (nI k)) ⟨by dsimp only; omega, fun j => if j < t then P j else if j = t then k else P (j - 1), ?_, sortP_ins hS ht hst hgt⟩ (by dsimp only; omega)
      intro j hj
      dsimp only at hj ⊢
      unfold upd
      by_cases c1 : j < t
      · rw [if_neg (by omega), if_pos c1]; exact hlo j c1
      · by_cases c2 : j = t
        · rw [if_pos c2, if_neg c1, if_pos c2]
        · rw [if_neg c2, if_neg c1, if_neg c2]; exact hhi j (by omega) (by omega)
    refine zi_iload O d_Edg_sortPlaces_22 rfl ?_
    refine zi_if_le O 67 d_Edg_sortPlaces_24 (by decide) (fun c24 => ?_) (fun c24 => ?_)
    · refine fin (fun h0 => absurd c24 (nI_nle h0 (by omega)))
    · have ht0 : 0 < t := Nat.pos_of_ne_zero (fun z => c24 (by rw [z]; decide))
      have hb := hS.1 (t - 1) (by omega)
      have hlb := (hL (P (t - 1)) (by omega)).2
      refine zi_aload_n O d_Edg_sortPlaces_27 rfl ?_
      refine zi_get O f_Edg_44 d_Edg_sortPlaces_28 rfl rfl ?_
      refine zi_aload_n O d_Edg_sortPlaces_31 rfl ?_
      refine zi_get O f_Edg_9 d_Edg_sortPlaces_32 rfl rfl ?_
      refine zi_iload O d_Edg_sortPlaces_35 rfl ?_
      refine zi_iconstN O 1 d_Edg_sortPlaces_37 (by decide) ?_
      first | refine zi_isubN O d_Edg_sortPlaces_38 (by omega) ?_ | refine zi_isub O d_Edg_sortPlaces_38 ?_
      refine zi_iald O d_Edg_sortPlaces_39 rfl rfl (by omega) (Nat.le_of_ble_eq_true rfl) ?_
      rw [hlo (t - 1) (by omega)]
      refine zi_iald O d_Edg_sortPlaces_40 rfl rfl (by omega) (Nat.le_of_ble_eq_true rfl) ?_
      rw [(hL (P (t - 1)) (by omega)).1]
      refine zi_iload_n O d_Edg_sortPlaces_41 rfl ?_
      refine zi_icmp_leN O 67 d_Edg_sortPlaces_42 (by decide) (by omega) (by omega) (fun c42 => ?_) (fun c42 => ?_)
      · exact fin (fun _ => c42)
      · refine zi_aload_n O d_Edg_sortPlaces_45 rfl ?_
        refine zi_get O f_Edg_9 d_Edg_sortPlaces_46 rfl rfl ?_
        refine zi_iload O d_Edg_sortPlaces_49 rfl ?_
        refine zi_aload_n O d_Edg_sortPlaces_51 rfl ?_
        refine zi_get O f_Edg_9 d_Edg_sortPlaces_52 rfl rfl ?_
        refine zi_iload O d_Edg_sortPlaces_55 rfl ?_
        refine zi_iconstN O 1 d_Edg_sortPlaces_57 (by decide) ?_
        first | refine zi_isubN O d_Edg_sortPlaces_58 (by omega) ?_ | refine zi_isub O d_Edg_sortPlaces_58 ?_
        refine zi_iald O d_Edg_sortPlaces_59 rfl rfl (by omega) (Nat.le_of_ble_eq_true rfl) ?_
        rw [hlo (t - 1) (by omega)]
        refine zi_iast O d_Edg_sortPlaces_60 rfl rfl (by omega) (Nat.le_of_ble_eq_true rfl) (by dsimp only [List.set]) ?_
        refine zi_iincD (ls' := _ :: _ :: _ :: _ :: some _ :: _) O d_Edg_sortPlaces_61 rfl (by decide) rfl (by decide) (by omega) rfl ?_
        refine zi_goto O 22 d_Edg_sortPlaces_64 (by decide) ?_
        refine ih2 (t - 1, upd PT t (nI (P (t - 1)))) ⟨by dsimp only; omega, fun j hj => ?_, fun j h1 h2 => ?_, fun j h1 h2 => ?_⟩ (by dsimp only; omega)
        · dsimp only at hj ⊢
          unfold upd
          rw [if_neg (by omega)]; exact hlo j (by omega)
        · dsimp only at h1 h2 ⊢
          unfold upd
          by_cases c1 : j = t
          · rw [if_pos c1, c1]
          · rw [if_neg c1]; exact hhi j (by omega) h2
        · dsimp only at h1 h2
          by_cases c1 : j = t - 1
          · rw [c1]; exact c42
          · exact hgt j (by omega) h2
