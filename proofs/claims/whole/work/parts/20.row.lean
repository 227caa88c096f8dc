/-! Math, Arrays, Row -/
def zb (b : Prop) [Decidable b] : Int32 := if b then 1 else 0
def jlo (x y : Int32) : Int32 := if y < x then y else x
def jhi (x y : Int32) : Int32 := if x < y then y else x
abbrev rowH (n : Nat) (L S : Nat → Int32) : List zE := [zo 2 [.ref 1, .ref 2, .int (nI n)], za 80 L, za 20 S]
theorem m_Math_min (x y : Int32) : zPu y_Math_min b_Math_min 2 (some .int) ⟨0, 0, 0, 0⟩ [.int x, .int y] [] (.int (jlo x y)) := by
  refine zMet_of (by decide +kernel) rfl (Nat.le_of_ble_eq_true rfl) (fun z1 z2 z3 z4 z5 z6 z7 z8 z9 z10 z11 z12 z13 z14 O hin => ?_)
  refine zi_ls (ls' := [some (.int x), some (.int y)]) rfl ?_
  refine zi_iload_n O d_Math_min_0 rfl ?_
  refine zi_iload_n O d_Math_min_1 rfl ?_
  refine zi_icmp_gt O 9 d_Math_min_2 (by decide) (fun c2 => ?_) (fun c2 => ?_)
  · refine zi_iload_n O d_Math_min_9 rfl ?_
    refine zi_iret O d_Math_min_10 (Nat.le_of_ble_eq_true rfl) (Nat.le_of_ble_eq_true rfl) (Nat.le_of_ble_eq_true rfl) ?_
    exact ⟨by rw [jlo, if_pos c2], rfl⟩
  · refine zi_iload_n O d_Math_min_5 rfl ?_
    refine zi_goto O 10 d_Math_min_6 (by decide) ?_
    refine zi_iret O d_Math_min_10 (Nat.le_of_ble_eq_true rfl) (Nat.le_of_ble_eq_true rfl) (Nat.le_of_ble_eq_true rfl) ?_
    exact ⟨by rw [jlo, if_neg c2], rfl⟩
theorem m_Math_max (x y : Int32) : zPu y_Math_max b_Math_max 2 (some .int) ⟨0, 0, 0, 0⟩ [.int x, .int y] [] (.int (jhi x y)) := by
  refine zMet_of (by decide +kernel) rfl (Nat.le_of_ble_eq_true rfl) (fun z1 z2 z3 z4 z5 z6 z7 z8 z9 z10 z11 z12 z13 z14 O hin => ?_)
  refine zi_ls (ls' := [some (.int x), some (.int y)]) rfl ?_
  refine zi_iload_n O d_Math_max_0 rfl ?_
  refine zi_iload_n O d_Math_max_1 rfl ?_
  refine zi_icmp_lt O 9 d_Math_max_2 (by decide) (fun c2 => ?_) (fun c2 => ?_)
  · refine zi_iload_n O d_Math_max_9 rfl ?_
    refine zi_iret O d_Math_max_10 (Nat.le_of_ble_eq_true rfl) (Nat.le_of_ble_eq_true rfl) (Nat.le_of_ble_eq_true rfl) ?_
    exact ⟨by rw [jhi, if_pos c2], rfl⟩
  · refine zi_iload_n O d_Math_max_5 rfl ?_
    refine zi_goto O 10 d_Math_max_6 (by decide) ?_
    refine zi_iret O d_Math_max_10 (Nat.le_of_ble_eq_true rfl) (Nat.le_of_ble_eq_true rfl) (Nat.le_of_ble_eq_true rfl) ?_
    exact ⟨by rw [jhi, if_neg c2], rfl⟩
theorem m_Row_isFull (n : Nat) (L S : Nat → Int32) (hn : n ≤ 20) : zPu y_Row_isFull b_Row_isFull 1 (some .boolean) ⟨0, 0, 0, 0⟩ [.ref 0] (rowH n L S) (.int (zb (20 ≤ n))) := by
  refine zMet_of (plainFor_of_name (by decide +kernel)) rfl (Nat.le_of_ble_eq_true rfl) (fun z1 z2 z3 z4 z5 z6 z7 z8 z9 z10 z11 z12 z13 z14 O hin => ?_)
  refine zi_ls (ls' := [some (.ref 0)]) rfl ?_
  refine zi_aload_n O d_Row_isFull_0 rfl ?_
  refine zi_get O f_Row_18 d_Row_isFull_1 rfl rfl ?_
  refine zi_bipushN O 20 d_Row_isFull_4 (by decide) ?_
  refine zi_icmp_ltN O 13 d_Row_isFull_6 (by decide) (by omega) (by omega) (fun c6 => ?_) (fun c6 => ?_)
  · refine zi_iconstN O 0 d_Row_isFull_13 (by decide) ?_
    refine zi_zret O d_Row_isFull_14 rfl (Nat.le_of_ble_eq_true rfl) (Nat.le_of_ble_eq_true rfl) (Nat.le_of_ble_eq_true rfl) ?_
    exact ⟨by rw [zb, if_neg (by omega)]; rfl, rfl⟩
  · refine zi_iconstN O 1 d_Row_isFull_9 (by decide) ?_
    refine zi_goto O 14 d_Row_isFull_10 (by decide) ?_
    refine zi_zret O d_Row_isFull_14 rfl (Nat.le_of_ble_eq_true rfl) (Nat.le_of_ble_eq_true rfl) (Nat.le_of_ble_eq_true rfl) ?_
    exact ⟨by rw [zb, if_pos (by omega)]; rfl, rfl⟩
theorem m_Row_add (n : Nat) (L S : Nat → Int32) (sg l0 l1 l2 l3 : Int32) (hn : n < 20) : zMet y_Row_add b_Row_add 7 none ⟨1, 0, 0, 20⟩ [.ref 0, .int sg, .int l0, .int l1, .int l2, .int l3] (rowH n L S) (fun r h' => r = none ∧ h' = rowH (n + 1) (upd (upd (upd (upd L (4 * n) l0) (4 * n + 1) l1) (4 * n + 2) l2) (4 * n + 3) l3) (upd S n sg)) := by
  refine zMet_of (plainFor_of_name (by decide +kernel)) rfl (Nat.le_of_ble_eq_true rfl) (fun z1 z2 z3 z4 z5 z6 z7 z8 z9 z10 z11 z12 z13 z14 O hin => ?_)
  refine zi_ls (ls' := [some (.ref 0), some (.int sg), some (.int l0), some (.int l1), some (.int l2), some (.int l3), none]) rfl ?_
  refine zi_aload_n O d_Row_add_0 rfl ?_
  refine zi_pureV O [0, 1, 2] c_Row_22 k_Row_isFull (m_Row_isFull n L S (by omega)) d_Row_add_1 ⟨(Nat.le_of_ble_eq_true rfl), (Nat.le_of_ble_eq_true rfl)⟩ ⟨(Nat.le_of_ble_eq_true rfl), (Nat.le_of_ble_eq_true rfl)⟩ rfl rfl (Nat.le_of_ble_eq_true rfl) rfl rfl rfl rfl rfl (Nat.le_of_ble_eq_true rfl) rfl ?_
  refine zi_if_eq O 8 d_Row_add_4 (by decide) (fun c4 => ?_) (fun c4 => ?_)
  · refine zi_iconstN O 4 d_Row_add_8 (by decide) ?_
    refine zi_aload_n O d_Row_add_9 rfl ?_
    refine zi_get O f_Row_18 d_Row_add_10 rfl rfl ?_
    first | refine zi_imulN O d_Row_add_13 ?_ | refine zi_imul O d_Row_add_13 ?_
    refine zi_istore (ls' := _ :: _ :: _ :: _ :: _ :: _ :: some _ :: _) O d_Row_add_14 rfl (by decide) rfl ?_
    refine zi_aload_n O d_Row_add_16 rfl ?_
    refine zi_get O f_Row_9 d_Row_add_17 rfl rfl ?_
    refine zi_iload O d_Row_add_20 rfl ?_
    refine zi_iload_n O d_Row_add_22 rfl ?_
    refine zi_iast O d_Row_add_23 rfl rfl (by omega) (Nat.le_of_ble_eq_true rfl) (by dsimp only [List.set]) ?_
    refine zi_aload_n O d_Row_add_24 rfl ?_
    refine zi_get O f_Row_9 d_Row_add_25 rfl rfl ?_
    refine zi_iload O d_Row_add_28 rfl ?_
    refine zi_iconstN O 1 d_Row_add_30 (by decide) ?_
    first | refine zi_iaddN O d_Row_add_31 ?_ | refine zi_iadd O d_Row_add_31 ?_
    refine zi_iload_n O d_Row_add_32 rfl ?_
    refine zi_iast O d_Row_add_33 rfl rfl (by omega) (Nat.le_of_ble_eq_true rfl) (by dsimp only [List.set]) ?_
    refine zi_aload_n O d_Row_add_34 rfl ?_
    refine zi_get O f_Row_9 d_Row_add_35 rfl rfl ?_
    refine zi_iload O d_Row_add_38 rfl ?_
    refine zi_iconstN O 2 d_Row_add_40 (by decide) ?_
    first | refine zi_iaddN O d_Row_add_41 ?_ | refine zi_iadd O d_Row_add_41 ?_
    refine zi_iload O d_Row_add_42 rfl ?_
    refine zi_iast O d_Row_add_44 rfl rfl (by omega) (Nat.le_of_ble_eq_true rfl) (by dsimp only [List.set]) ?_
    refine zi_aload_n O d_Row_add_45 rfl ?_
    refine zi_get O f_Row_9 d_Row_add_46 rfl rfl ?_
    refine zi_iload O d_Row_add_49 rfl ?_
    refine zi_iconstN O 3 d_Row_add_51 (by decide) ?_
    first | refine zi_iaddN O d_Row_add_52 ?_ | refine zi_iadd O d_Row_add_52 ?_
    refine zi_iload O d_Row_add_53 rfl ?_
    refine zi_iast O d_Row_add_55 rfl rfl (by omega) (Nat.le_of_ble_eq_true rfl) (by dsimp only [List.set]) ?_
    refine zi_aload_n O d_Row_add_56 rfl ?_
    refine zi_get O f_Row_15 d_Row_add_57 rfl rfl ?_
    refine zi_aload_n O d_Row_add_60 rfl ?_
    refine zi_get O f_Row_18 d_Row_add_61 rfl rfl ?_
    refine zi_iload_n O d_Row_add_64 rfl ?_
    refine zi_iast O d_Row_add_65 rfl rfl (by omega) (Nat.le_of_ble_eq_true rfl) (by dsimp only [List.set]) ?_
    refine zi_aload_n O d_Row_add_66 rfl ?_
    refine zi_dup O d_Row_add_67 rfl ?_
    refine zi_get O f_Row_18 d_Row_add_68 rfl rfl ?_
    refine zi_iconstN O 1 d_Row_add_71 (by decide) ?_
    first | refine zi_iaddN O d_Row_add_72 ?_ | refine zi_iadd O d_Row_add_72 ?_
    refine zi_put O f_Row_18 d_Row_add_73 rfl (Nat.le_of_ble_eq_true rfl) (fun _ => rfl) (fun _ => rfl) (by dsimp only [List.set]) ?_
    refine zi_vret O d_Row_add_76 (Nat.le_of_ble_eq_true rfl) (Nat.le_of_ble_eq_true rfl) (Nat.le_of_ble_eq_true rfl) ?_
    exact ⟨rfl, rfl⟩
  · exact absurd (by rw [zb, if_neg (by omega)]) c4
def sumS (S : Nat → Int32) : Nat → Int32
  | 0 => nI 0
  | n + 1 => sumS S n + S n
theorem m_Row_sumOfSigns (n : Nat) (L S : Nat → Int32) (hn : n ≤ 20) : zPu y_Row_sumOfSigns b_Row_sumOfSigns 3 (some .int) ⟨0, 0, 0, 0⟩ [.ref 0] (rowH n L S) (.int (sumS S n)) := by
  refine zMet_of (plainFor_of_name (by decide +kernel)) rfl (Nat.le_of_ble_eq_true rfl) (fun z1 z2 z3 z4 z5 z6 z7 z8 z9 z10 z11 z12 z13 z14 O hin => ?_)
  refine zi_ls (ls' := [some (.ref 0), none, none]) rfl ?_
  refine zi_iconstN O 0 d_Row_sumOfSigns_0 (by decide) ?_
  refine zi_istore_n (ls' := _ :: some _ :: _) O d_Row_sumOfSigns_1 rfl (by decide) rfl ?_
  refine zi_iconstN O 0 d_Row_sumOfSigns_2 (by decide) ?_
  refine zi_istore_n (ls' := _ :: _ :: some _ :: _) O d_Row_sumOfSigns_3 rfl (by decide) rfl ?_
  refine zi_for (fun i => [some (.ref 0), some (.int (sumS S i)), some (.int (nI i))]) (fun _ => rowH n L S) 0 n (by omega) rfl rfl (fun i _ hi ih => ?_) ?_
  · refine zi_iload_n O d_Row_sumOfSigns_4 rfl ?_
    refine zi_aload_n O d_Row_sumOfSigns_5 rfl ?_
    refine zi_get O f_Row_18 d_Row_sumOfSigns_6 rfl rfl ?_
    refine zi_icmp_geN O 27 d_Row_sumOfSigns_9 (by decide) (by omega) (by omega) (fun c9 => ?_) (fun c9 => ?_)
    · omega
    · refine zi_iload_n O d_Row_sumOfSigns_12 rfl ?_
      refine zi_aload_n O d_Row_sumOfSigns_13 rfl ?_
      refine zi_get O f_Row_15 d_Row_sumOfSigns_14 rfl rfl ?_
      refine zi_iload_n O d_Row_sumOfSigns_17 rfl ?_
      refine zi_iald O d_Row_sumOfSigns_18 rfl rfl (by omega) (Nat.le_of_ble_eq_true rfl) ?_
      first | refine zi_iaddN O d_Row_sumOfSigns_19 ?_ | refine zi_iadd O d_Row_sumOfSigns_19 ?_
      refine zi_istore_n (ls' := _ :: some _ :: _) O d_Row_sumOfSigns_20 rfl (by decide) rfl ?_
      refine zi_iincN (ls' := _ :: _ :: some _ :: _) O 1 d_Row_sumOfSigns_21 rfl (by decide) rfl (by decide) rfl ?_
      refine zi_goto O 4 d_Row_sumOfSigns_24 (by decide) ?_
      exact ih
  · refine zi_iload_n O d_Row_sumOfSigns_4 rfl ?_
    refine zi_aload_n O d_Row_sumOfSigns_5 rfl ?_
    refine zi_get O f_Row_18 d_Row_sumOfSigns_6 rfl rfl ?_
    refine zi_icmp_geN O 27 d_Row_sumOfSigns_9 (by decide) (by omega) (by omega) (fun c9 => ?_) (fun c9 => ?_)
    · refine zi_iload_n O d_Row_sumOfSigns_27 rfl ?_
      refine zi_iret O d_Row_sumOfSigns_28 (Nat.le_of_ble_eq_true rfl) (Nat.le_of_ble_eq_true rfl) (Nat.le_of_ble_eq_true rfl) ?_
      exact ⟨rfl, rfl⟩
    · omega
def up (S : Nat → Int32) (c : Nat) : Nat := if S c = nI 1 then 3 else 1
theorem up_le (S : Nat → Int32) (c : Nat) : up S c ≤ 3 := by unfold up; split <;> omega
theorem m_Row_upperIn (n : Nat) (L S : Nat → Int32) (a : Nat) (ha : a < 20) : zPu y_Row_upperIn b_Row_upperIn 2 (some .int) ⟨0, 0, 0, 0⟩ [.ref 0, .int (nI a)] (rowH n L S) (.int (nI (4 * a + up S a))) := by
  refine zMet_of (plainFor_of_name (by decide +kernel)) rfl (Nat.le_of_ble_eq_true rfl) (fun z1 z2 z3 z4 z5 z6 z7 z8 z9 z10 z11 z12 z13 z14 O hin => ?_)
  refine zi_ls (ls' := [some (.ref 0), some (.int (nI a))]) rfl ?_
  refine zi_iconstN O 4 d_Row_upperIn_0 (by decide) ?_
  refine zi_iload_n O d_Row_upperIn_1 rfl ?_
  first | refine zi_imulN O d_Row_upperIn_2 ?_ | refine zi_imul O d_Row_upperIn_2 ?_
  refine zi_aload_n O d_Row_upperIn_3 rfl ?_
  refine zi_get O f_Row_15 d_Row_upperIn_4 rfl rfl ?_
  refine zi_iload_n O d_Row_upperIn_7 rfl ?_
  refine zi_iald O d_Row_upperIn_8 rfl rfl (by omega) (Nat.le_of_ble_eq_true rfl) ?_
  refine zi_iconstN O 1 d_Row_upperIn_9 (by decide) ?_
  refine zi_icmp_ne O 17 d_Row_upperIn_10 (by decide) (fun c10 => ?_) (fun c10 => ?_)
  · refine zi_iconstN O 1 d_Row_upperIn_17 (by decide) ?_
    first | refine zi_iaddN O d_Row_upperIn_18 ?_ | refine zi_iadd O d_Row_upperIn_18 ?_
    refine zi_iret O d_Row_upperIn_19 (Nat.le_of_ble_eq_true rfl) (Nat.le_of_ble_eq_true rfl) (Nat.le_of_ble_eq_true rfl) ?_
    exact ⟨by rw [up, if_neg c10], rfl⟩
  · refine zi_iconstN O 3 d_Row_upperIn_13 (by decide) ?_
    refine zi_goto O 18 d_Row_upperIn_14 (by decide) ?_
    first | refine zi_iaddN O d_Row_upperIn_18 ?_ | refine zi_iadd O d_Row_upperIn_18 ?_
    refine zi_iret O d_Row_upperIn_19 (Nat.le_of_ble_eq_true rfl) (Nat.le_of_ble_eq_true rfl) (Nat.le_of_ble_eq_true rfl) ?_
    exact ⟨by rw [up, if_pos c10], rfl⟩
theorem m_Row_strandGoesIn (n : Nat) (L S : Nat → Int32) (a : Nat) (ha : a < 80) : zPu y_Row_strandGoesIn b_Row_strandGoesIn 3 (some .boolean) ⟨1, 0, 0, 24⟩ [.ref 0, .int (nI a)] (rowH n L S) (.int (zb (a = 4 * (a / 4) ∨ a = 4 * (a / 4) + up S (a / 4)))) := by
  have hu := up_le S (a / 4)
  refine zMet_of (plainFor_of_name (by decide +kernel)) rfl (Nat.le_of_ble_eq_true rfl) (fun z1 z2 z3 z4 z5 z6 z7 z8 z9 z10 z11 z12 z13 z14 O hin => ?_)
  refine zi_ls (ls' := [some (.ref 0), some (.int (nI a)), none]) rfl ?_
  refine zi_iload_n O d_Row_strandGoesIn_0 rfl ?_
  refine zi_iconstN O 2 d_Row_strandGoesIn_1 (by decide) ?_
  first | refine zi_ishrN O 2 2 d_Row_strandGoesIn_2 (by decide) (by omega) ?_ | refine zi_ishrN O 1 1 d_Row_strandGoesIn_2 (by decide) (by omega) ?_
  refine zi_istore_n (ls' := _ :: _ :: some _ :: _) O d_Row_strandGoesIn_3 rfl (by decide) rfl ?_
  refine zi_iload_n O d_Row_strandGoesIn_4 rfl ?_
  refine zi_iconstN O 4 d_Row_strandGoesIn_5 (by decide) ?_
  refine zi_iload_n O d_Row_strandGoesIn_6 rfl ?_
  first | refine zi_imulN O d_Row_strandGoesIn_7 ?_ | refine zi_imul O d_Row_strandGoesIn_7 ?_
  refine zi_icmp_eqN O 20 d_Row_strandGoesIn_8 (by decide) (by omega) (by omega) (fun c8 => ?_) (fun c8 => ?_)
  · refine zi_iconstN O 1 d_Row_strandGoesIn_20 (by decide) ?_
    refine zi_goto O 25 d_Row_strandGoesIn_21 (by decide) ?_
    refine zi_zret O d_Row_strandGoesIn_25 rfl (Nat.le_of_ble_eq_true rfl) (Nat.le_of_ble_eq_true rfl) (Nat.le_of_ble_eq_true rfl) ?_
    exact ⟨by rw [zb, if_pos (Or.inl c8)]; rfl, rfl⟩
  · refine zi_iload_n O d_Row_strandGoesIn_11 rfl ?_
    refine zi_aload_n O d_Row_strandGoesIn_12 rfl ?_
    refine zi_iload_n O d_Row_strandGoesIn_13 rfl ?_
    refine zi_pureV O [0, 1, 2] c_Row_26 k_Row_upperIn (m_Row_upperIn n L S (a / 4) (by omega)) d_Row_strandGoesIn_14 ⟨(Nat.le_of_ble_eq_true rfl), (Nat.le_of_ble_eq_true rfl)⟩ ⟨(Nat.le_of_ble_eq_true rfl), (Nat.le_of_ble_eq_true rfl)⟩ rfl rfl (Nat.le_of_ble_eq_true rfl) rfl rfl rfl rfl rfl (Nat.le_of_ble_eq_true rfl) rfl ?_
    refine zi_icmp_neN O 24 d_Row_strandGoesIn_17 (by decide) (by omega) (by omega) (fun c17 => ?_) (fun c17 => ?_)
    · refine zi_iconstN O 0 d_Row_strandGoesIn_24 (by decide) ?_
      refine zi_zret O d_Row_strandGoesIn_25 rfl (Nat.le_of_ble_eq_true rfl) (Nat.le_of_ble_eq_true rfl) (Nat.le_of_ble_eq_true rfl) ?_
      exact ⟨by rw [zb, if_neg (fun z => z.elim c8 c17)]; rfl, rfl⟩
    · refine zi_iconstN O 1 d_Row_strandGoesIn_20 (by decide) ?_
      refine zi_goto O 25 d_Row_strandGoesIn_21 (by decide) ?_
      refine zi_zret O d_Row_strandGoesIn_25 rfl (Nat.le_of_ble_eq_true rfl) (Nat.le_of_ble_eq_true rfl) (Nat.le_of_ble_eq_true rfl) ?_
      exact ⟨by rw [zb, if_pos (Or.inr c17)]; rfl, rfl⟩
def jn (L : Nat → Int32) (lo hi : Int32) (k : Nat) : Nat → Int32 := fun j => if j < k ∧ L j = hi then lo else L j
theorem jn_0 (L : Nat → Int32) (lo hi : Int32) : jn L lo hi 0 = L := by funext j; simp [jn]
theorem jn_at (L : Nat → Int32) (lo hi : Int32) (k : Nat) : jn L lo hi k k = L k := by simp [jn]
theorem jn_no {L : Nat → Int32} {lo hi : Int32} {k : Nat} (h : ¬ L k = hi) : jn L lo hi (k + 1) = jn L lo hi k := by
  funext j
  unfold jn
  by_cases hj : j = k
  · subst hj; simp [h]
  · have : (j < k + 1 ∧ L j = hi) ↔ (j < k ∧ L j = hi) := ⟨fun z => ⟨by omega, z.2⟩, fun z => ⟨by omega, z.2⟩⟩
    simp only [this]
theorem jn_yes {L : Nat → Int32} {lo hi : Int32} {k : Nat} (h : L k = hi) : upd (jn L lo hi k) k lo = jn L lo hi (k + 1) := by
  funext j
  unfold upd jn
  by_cases hj : j = k
  · subst hj; simp [h]
  · have : (j < k + 1 ∧ L j = hi) ↔ (j < k ∧ L j = hi) := ⟨fun z => ⟨by omega, z.2⟩, fun z => ⟨by omega, z.2⟩⟩
    simp only [this, if_neg hj]
theorem m_Row_joinLabels (n : Nat) (L S : Nat → Int32) (a b : Nat) (hn : n ≤ 20) (ha : a < 80) (hb : b < 80) : zMet y_Row_joinLabels b_Row_joinLabels 6 (some .boolean) ⟨1, 0, 0, 24⟩ [.ref 0, .int (nI a), .int (nI b)] (rowH n L S)
    (fun r h' => r = some (.int (zb (¬ jlo (L a) (L b) = jhi (L a) (L b)))) ∧ h' = rowH n (if jlo (L a) (L b) = jhi (L a) (L b) then L else jn L (jlo (L a) (L b)) (jhi (L a) (L b)) (4 * n)) S) := by
  refine zMet_of (plainFor_of_name (by decide +kernel)) rfl (Nat.le_of_ble_eq_true rfl) (fun z1 z2 z3 z4 z5 z6 z7 z8 z9 z10 z11 z12 z13 z14 O hin => ?_)
  refine zi_ls (ls' := [some (.ref 0), some (.int (nI a)), some (.int (nI b)), none, none, none]) rfl ?_
  refine zi_aload_n O d_Row_joinLabels_0 rfl ?_
  refine zi_get O f_Row_9 d_Row_joinLabels_1 rfl rfl ?_
  refine zi_iload_n O d_Row_joinLabels_4 rfl ?_
  refine zi_iald O d_Row_joinLabels_5 rfl rfl (by omega) (Nat.le_of_ble_eq_true rfl) ?_
  refine zi_aload_n O d_Row_joinLabels_6 rfl ?_
  refine zi_get O f_Row_9 d_Row_joinLabels_7 rfl rfl ?_
  refine zi_iload_n O d_Row_joinLabels_10 rfl ?_
  refine zi_iald O d_Row_joinLabels_11 rfl rfl (by omega) (Nat.le_of_ble_eq_true rfl) ?_
  refine zi_pureS O [] c_Row_30 k_Math_min (m_Math_min (L a) (L b)) d_Row_joinLabels_12 ⟨(Nat.le_of_ble_eq_true rfl), (Nat.le_of_ble_eq_true rfl)⟩ ⟨(Nat.le_of_ble_eq_true rfl), (Nat.le_of_ble_eq_true rfl)⟩ rfl (Nat.le_of_ble_eq_true rfl) rfl rfl rfl rfl rfl (Nat.le_of_ble_eq_true rfl) rfl ?_
  refine zi_istore_n (ls' := _ :: _ :: _ :: some _ :: _) O d_Row_joinLabels_15 rfl (by decide) rfl ?_
  refine zi_aload_n O d_Row_joinLabels_16 rfl ?_
  refine zi_get O f_Row_9 d_Row_joinLabels_17 rfl rfl ?_
  refine zi_iload_n O d_Row_joinLabels_20 rfl ?_
  refine zi_iald O d_Row_joinLabels_21 rfl rfl (by omega) (Nat.le_of_ble_eq_true rfl) ?_
  refine zi_aload_n O d_Row_joinLabels_22 rfl ?_
  refine zi_get O f_Row_9 d_Row_joinLabels_23 rfl rfl ?_
  refine zi_iload_n O d_Row_joinLabels_26 rfl ?_
  refine zi_iald O d_Row_joinLabels_27 rfl rfl (by omega) (Nat.le_of_ble_eq_true rfl) ?_
  refine zi_pureS O [] c_Row_36 k_Math_max (m_Math_max (L a) (L b)) d_Row_joinLabels_28 ⟨(Nat.le_of_ble_eq_true rfl), (Nat.le_of_ble_eq_true rfl)⟩ ⟨(Nat.le_of_ble_eq_true rfl), (Nat.le_of_ble_eq_true rfl)⟩ rfl (Nat.le_of_ble_eq_true rfl) rfl rfl rfl rfl rfl (Nat.le_of_ble_eq_true rfl) rfl ?_
  refine zi_istore (ls' := _ :: _ :: _ :: _ :: some _ :: _) O d_Row_joinLabels_31 rfl (by decide) rfl ?_
  refine zi_iload_n O d_Row_joinLabels_33 rfl ?_
  refine zi_iload O d_Row_joinLabels_34 rfl ?_
  refine zi_icmp_ne O 41 d_Row_joinLabels_36 (by decide) (fun c36 => ?_) (fun c36 => ?_)
  · refine zi_iconstN O 0 d_Row_joinLabels_41 (by decide) ?_
    refine zi_istore (ls' := _ :: _ :: _ :: _ :: _ :: some _ :: _) O d_Row_joinLabels_42 rfl (by decide) rfl ?_
    refine zi_for (fun i => [some (.ref 0), some (.int (nI a)), some (.int (nI b)), some (.int (jlo (L a) (L b))), some (.int (jhi (L a) (L b))), some (.int (nI i))]) (fun i => rowH n (jn L (jlo (L a) (L b)) (jhi (L a) (L b)) i) S) 0 (4 * n) (by omega) rfl (by rw [jn_0]) (fun i _ hi ih => ?_) ?_
    · refine zi_iload O d_Row_joinLabels_44 rfl ?_
      refine zi_iconstN O 4 d_Row_joinLabels_46 (by decide) ?_
      refine zi_aload_n O d_Row_joinLabels_47 rfl ?_
      refine zi_get O f_Row_18 d_Row_joinLabels_48 rfl rfl ?_
      first | refine zi_imulN O d_Row_joinLabels_51 ?_ | refine zi_imul O d_Row_joinLabels_51 ?_
      refine zi_icmp_geN O 81 d_Row_joinLabels_52 (by decide) (by omega) (by omega) (fun c52 => ?_) (fun c52 => ?_)
      · omega
      · refine zi_aload_n O d_Row_joinLabels_55 rfl ?_
        refine zi_get O f_Row_9 d_Row_joinLabels_56 rfl rfl ?_
        refine zi_iload O d_Row_joinLabels_59 rfl ?_
        refine zi_iald O d_Row_joinLabels_61 rfl rfl (by omega) (Nat.le_of_ble_eq_true rfl) ?_
        refine zi_iload O d_Row_joinLabels_62 rfl ?_
        rw [jn_at]
        refine zi_icmp_ne O 75 d_Row_joinLabels_64 (by decide) (fun c64 => ?_) (fun c64 => ?_)
        · refine zi_iincN (ls' := _ :: _ :: _ :: _ :: _ :: some _ :: _) O 1 d_Row_joinLabels_75 rfl (by decide) rfl (by decide) rfl ?_
          refine zi_goto O 44 d_Row_joinLabels_78 (by decide) ?_
          rw [← jn_no (lo := jlo (L a) (L b)) c64]
          exact ih
        · refine zi_aload_n O d_Row_joinLabels_67 rfl ?_
          refine zi_get O f_Row_9 d_Row_joinLabels_68 rfl rfl ?_
          refine zi_iload O d_Row_joinLabels_71 rfl ?_
          refine zi_iload_n O d_Row_joinLabels_73 rfl ?_
          refine zi_iast O d_Row_joinLabels_74 rfl rfl (by omega) (Nat.le_of_ble_eq_true rfl) (by dsimp only [List.set]) ?_
          refine zi_iincN (ls' := _ :: _ :: _ :: _ :: _ :: some _ :: _) O 1 d_Row_joinLabels_75 rfl (by decide) rfl (by decide) rfl ?_
          refine zi_goto O 44 d_Row_joinLabels_78 (by decide) ?_
          rw [jn_yes c64]
          exact ih
    · refine zi_iload O d_Row_joinLabels_44 rfl ?_
      refine zi_iconstN O 4 d_Row_joinLabels_46 (by decide) ?_
      refine zi_aload_n O d_Row_joinLabels_47 rfl ?_
      refine zi_get O f_Row_18 d_Row_joinLabels_48 rfl rfl ?_
      first | refine zi_imulN O d_Row_joinLabels_51 ?_ | refine zi_imul O d_Row_joinLabels_51 ?_
      refine zi_icmp_geN O 81 d_Row_joinLabels_52 (by decide) (by omega) (by omega) (fun c52 => ?_) (fun c52 => ?_)
      · refine zi_iconstN O 1 d_Row_joinLabels_81 (by decide) ?_
        refine zi_zret O d_Row_joinLabels_82 rfl (Nat.le_of_ble_eq_true rfl) (Nat.le_of_ble_eq_true rfl) (Nat.le_of_ble_eq_true rfl) ?_
        exact ⟨by rw [zb, if_pos c36]; rfl, by rw [if_neg c36]⟩
      · omega
  · refine zi_iconstN O 0 d_Row_joinLabels_39 (by decide) ?_
    refine zi_zret O d_Row_joinLabels_40 rfl (Nat.le_of_ble_eq_true rfl) (Nat.le_of_ble_eq_true rfl) (Nat.le_of_ble_eq_true rfl) ?_
    exact ⟨by rw [zb, if_neg (fun z => z c36)]; rfl, by rw [if_pos c36]⟩
theorem m_Row_remove (n : Nat) (L S : Nat → Int32) (a : Nat) (hn : n ≤ 20) (ha : a < n) : zMet y_Row_remove b_Row_remove 3 none ⟨1, 0, 0, 60⟩ [.ref 0, .int (nI a)] (rowH n L S)
    (fun r h' => r = none ∧ h' = rowH (n - 1) (va_cpy L L (4 * (a + 1)) (4 * a) (4 * (n - a - 1))) (va_cpy S S (a + 1) a (n - a - 1))) := by
  refine zMet_of (plainFor_of_name (by decide +kernel)) rfl (Nat.le_of_ble_eq_true rfl) (fun z1 z2 z3 z4 z5 z6 z7 z8 z9 z10 z11 z12 z13 z14 O hin => ?_)
  refine zi_ls (ls' := [some (.ref 0), some (.int (nI a)), none]) rfl ?_
  refine zi_iload_n O d_Row_remove_0 rfl ?_
  refine zi_if_lt O 12 d_Row_remove_1 (by decide) (fun c1 => ?_) (fun c1 => ?_)
  · exact absurd c1 (nI_pos (by omega))
  · refine zi_iload_n O d_Row_remove_4 rfl ?_
    refine zi_aload_n O d_Row_remove_5 rfl ?_
    refine zi_get O f_Row_18 d_Row_remove_6 rfl rfl ?_
    refine zi_icmp_ltN O 13 d_Row_remove_9 (by decide) (by omega) (by omega) (fun c9 => ?_) (fun c9 => ?_)
    · refine zi_aload_n O d_Row_remove_13 rfl ?_
      refine zi_get O f_Row_18 d_Row_remove_14 rfl rfl ?_
      refine zi_iload_n O d_Row_remove_17 rfl ?_
      first | refine zi_isubN O d_Row_remove_18 (by omega) ?_ | refine zi_isub O d_Row_remove_18 ?_
      refine zi_iconstN O 1 d_Row_remove_19 (by decide) ?_
      first | refine zi_isubN O d_Row_remove_20 (by omega) ?_ | refine zi_isub O d_Row_remove_20 ?_
      refine zi_istore_n (ls' := _ :: _ :: some _ :: _) O d_Row_remove_21 rfl (by decide) rfl ?_
      refine zi_aload_n O d_Row_remove_22 rfl ?_
      refine zi_get O f_Row_9 d_Row_remove_23 rfl rfl ?_
      refine zi_iconstN O 4 d_Row_remove_26 (by decide) ?_
      refine zi_iload_n O d_Row_remove_27 rfl ?_
      refine zi_iconstN O 1 d_Row_remove_28 (by decide) ?_
      first | refine zi_iaddN O d_Row_remove_29 ?_ | refine zi_iadd O d_Row_remove_29 ?_
      first | refine zi_imulN O d_Row_remove_30 ?_ | refine zi_imul O d_Row_remove_30 ?_
      refine zi_aload_n O d_Row_remove_31 rfl ?_
      refine zi_get O f_Row_9 d_Row_remove_32 rfl rfl ?_
      refine zi_iconstN O 4 d_Row_remove_35 (by decide) ?_
      refine zi_iload_n O d_Row_remove_36 rfl ?_
      first | refine zi_imulN O d_Row_remove_37 ?_ | refine zi_imul O d_Row_remove_37 ?_
      refine zi_iconstN O 4 d_Row_remove_38 (by decide) ?_
      refine zi_iload_n O d_Row_remove_39 rfl ?_
      first | refine zi_imulN O d_Row_remove_40 ?_ | refine zi_imul O d_Row_remove_40 ?_
      refine zi_copy O d_Row_remove_41 z_ac_Row z_ac1 z_ac2 z_ac3 rfl rfl rfl rfl rfl (by omega) (by omega) (by decide) (by decide) (Nat.le_of_ble_eq_true rfl) (Nat.le_of_ble_eq_true rfl) (by dsimp only [List.set]) ?_
      refine zi_aload_n O d_Row_remove_44 rfl ?_
      refine zi_get O f_Row_15 d_Row_remove_45 rfl rfl ?_
      refine zi_iload_n O d_Row_remove_48 rfl ?_
      refine zi_iconstN O 1 d_Row_remove_49 (by decide) ?_
      first | refine zi_iaddN O d_Row_remove_50 ?_ | refine zi_iadd O d_Row_remove_50 ?_
      refine zi_aload_n O d_Row_remove_51 rfl ?_
      refine zi_get O f_Row_15 d_Row_remove_52 rfl rfl ?_
      refine zi_iload_n O d_Row_remove_55 rfl ?_
      refine zi_iload_n O d_Row_remove_56 rfl ?_
      refine zi_copy O d_Row_remove_57 z_ac_Row z_ac1 z_ac2 z_ac3 rfl rfl rfl rfl rfl (by omega) (by omega) (by decide) (by decide) (Nat.le_of_ble_eq_true rfl) (Nat.le_of_ble_eq_true rfl) (by dsimp only [List.set]) ?_
      refine zi_aload_n O d_Row_remove_60 rfl ?_
      refine zi_dup O d_Row_remove_61 rfl ?_
      refine zi_get O f_Row_18 d_Row_remove_62 rfl rfl ?_
      refine zi_iconstN O 1 d_Row_remove_65 (by decide) ?_
      first | refine zi_isubN O d_Row_remove_66 (by omega) ?_ | refine zi_isub O d_Row_remove_66 ?_
      refine zi_put O f_Row_18 d_Row_remove_67 rfl (Nat.le_of_ble_eq_true rfl) (fun _ => rfl) (fun _ => rfl) (by dsimp only [List.set]) ?_
      refine zi_vret O d_Row_remove_70 (Nat.le_of_ble_eq_true rfl) (Nat.le_of_ble_eq_true rfl) (Nat.le_of_ble_eq_true rfl) ?_
      exact ⟨rfl, rfl⟩
    · omega
