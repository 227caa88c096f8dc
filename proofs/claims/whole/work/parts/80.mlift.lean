/-! The model: rename, join, lift -/
def rnm (x y : Nat) (f : Nat → Nat) : Nat → Nat := fun q => if f q = x then y else f q
theorem mn_comm (a b : Nat) : mn a b = mn b a := by unfold mn; split <;> split <;> omega
theorem mx_comm (a b : Nat) : mx a b = mx b a := by unfold mx; split <;> split <;> omega
theorem jl_comm (lab : Nat → Nat) (a b : Nat) : jl lab a b = jl lab b a := by unfold jl; rw [mn_comm, mx_comm]
theorem jc_comm (lab : Nat → Nat) (a b : Nat) (ci : Int32) : jc lab a b ci = jc lab b a ci := by
  unfold jc
  by_cases c : lab a = lab b
  · rw [if_pos c, if_pos c.symm]
  · rw [if_neg c, if_neg (fun z => c z.symm)]
theorem lf_plain (lab : Nat → Nat) (S : Nat → Int32) (c : Nat) (ci : Int32) : lfL lab S c = rmL (jl (jl lab (4 * c) (4 * c + 2)) (4 * c + 1) (4 * c + 3)) c ∧ lfC lab S c ci = jc (jl lab (4 * c) (4 * c + 2)) (4 * c + 1) (4 * c + 3) (jc lab (4 * c) (4 * c + 2) ci) := by
  unfold lfL lfC uq
  rcases up_or S c with h | h <;> rw [h]
  · rw [show ac (4 * c + 3) = 4 * c + 1 by unfold ac; omega, jl_comm, jc_comm]; exact ⟨rfl, rfl⟩
  · rw [show ac (4 * c + 1) = 4 * c + 3 by unfold ac; omega]; exact ⟨rfl, rfl⟩
theorem jl_bd {n : Nat} {lab : Nat → Nat} (h : ∀ q, q < 4 * n → 1 ≤ lab q ∧ lab q ≤ 9999) {a b : Nat} (ha : a < 4 * n) (hb : b < 4 * n) : ∀ q, q < 4 * n → 1 ≤ jl lab a b q ∧ jl lab a b q ≤ 9999 := by
  intro q hq
  unfold jl
  split
  · rcases mn_or (lab a) (lab b) with z | z <;> rw [z]
    · exact h a ha
    · exact h b hb
  · exact h q hq
section
variable {put n oN labs closed faces sides : Nat} {wrong ci oC : Int32} {pS pL S L oS oL row fresh piece comp fof side free arnd : Nat → Int32}
set_option maxHeartbeats 1000000 in
theorem m_Mod_rename {lab F : Nat → Nat} (hn : n ≤ 20) (hL : ∀ q, q < 4 * n → L q = nI (lab q) ∧ lab q ≤ 9999) (hF : ∀ p, p < 4 → fresh p = nI (F p) ∧ F p ≤ 9999) (x y : Nat) (hx : x ≤ 9999) (hy : y ≤ 9999) : zMet y_Mod_rename b_Mod_rename 4 none ⟨0, 0, 0, 0⟩ [.ref 0, .int (nI x), .int (nI y)] (mh put wrong pS pL n ci oN oC S L oS oL labs row fresh piece closed faces comp fof sides side free arnd)
    (fun r h' => r = none ∧ ∃ (L' fresh' : Nat → Int32), h' = (mh put wrong pS pL n ci oN oC S L' oS oL labs row fresh' piece closed faces comp fof sides side free arnd) ∧ (∀ q, q < 4 * n → L' q = nI (rnm x y lab q)) ∧ ∀ p, p < 4 → fresh' p = nI (rnm x y F p)) := by
  refine zMet_of (plainFor_of_name (by decide +kernel)) rfl (Nat.le_of_ble_eq_true rfl) (fun z1 z2 z3 z4 z5 z6 z7 z8 z9 z10 z11 z12 z13 z14 O hin => ?_)
  refine zi_ls (ls' := [some (.ref 0), some (.int (nI x)), some (.int (nI y)), none]) rfl ?_
  refine zi_iconstN O 0 d_Mod_rename_0 (by decide) ?_
  refine zi_istore_n (ls' := _ :: _ :: _ :: some _ :: _) O d_Mod_rename_1 rfl (by decide) rfl ?_
  refine zi_loop (σ := Nat × (Nat → Int32)) (fun s => [some (.ref 0), some (.int (nI x)), some (.int (nI y)), some (.int (nI s.1))]) (fun s => (mh put wrong pS pL n ci oN oC S (s.2) oS oL labs row fresh piece closed faces comp fof sides side free arnd)) (fun s => s.1 ≤ 4 * n ∧ (∀ q, q < s.1 → s.2 q = nI (rnm x y lab q)) ∧ ∀ q, s.1 ≤ q → q < 4 * n → s.2 q = nI (lab q)) (fun s => 4 * n - s.1) (0, L) rfl rfl ⟨Nat.zero_le _, fun q hq => absurd hq (Nat.not_lt_zero q), fun q _ hq => (hL q hq).1⟩ ?_
  rintro ⟨i, A⟩ ⟨hi, hA, hB⟩ ih
  dsimp only at hi hA hB ih ⊢
  refine zi_iload_n O d_Mod_rename_2 rfl ?_
  refine zi_iconstN O 4 d_Mod_rename_3 (by decide) ?_
  refine zi_aload_n O d_Mod_rename_4 rfl ?_
  refine zi_get O f_Mod_59 d_Mod_rename_5 rfl rfl ?_
  first | refine zi_imulN O d_Mod_rename_8 ?_ | refine zi_imul O d_Mod_rename_8 ?_
  refine zi_icmp_geN O 44 d_Mod_rename_9 (by decide) (by omega) (by omega) (fun c9 => ?_) (fun c9 => ?_)
  · refine zi_iconstN O 0 d_Mod_rename_44 (by decide) ?_
    refine zi_istore_n (ls' := _ :: _ :: _ :: some _ :: _) O d_Mod_rename_45 rfl (by decide) rfl ?_
    refine zi_loop (σ := Nat × (Nat → Int32)) (fun s => [some (.ref 0), some (.int (nI x)), some (.int (nI y)), some (.int (nI s.1))]) (fun s => (mh put wrong pS pL n ci oN oC S A oS oL labs row (s.2) piece closed faces comp fof sides side free arnd)) (fun s => s.1 ≤ 4 ∧ (∀ q, q < s.1 → s.2 q = nI (rnm x y F q)) ∧ ∀ q, s.1 ≤ q → q < 4 → s.2 q = nI (F q)) (fun s => 4 - s.1) (0, fresh) rfl rfl ⟨Nat.zero_le _, fun q hq => absurd hq (Nat.not_lt_zero q), fun q _ hq => (hF q hq).1⟩ ?_
    rintro ⟨j, B⟩ ⟨hj, hC, hD⟩ ih2
    dsimp only at hj hC hD ih2 ⊢
    refine zi_iload_n O d_Mod_rename_46 rfl ?_
    refine zi_iconstN O 4 d_Mod_rename_47 (by decide) ?_
    refine zi_icmp_geN O 83 d_Mod_rename_48 (by decide) (by omega) (by omega) (fun c48 => ?_) (fun c48 => ?_)
    · refine zi_vret O d_Mod_rename_83 (Nat.le_of_ble_eq_true rfl) (Nat.le_of_ble_eq_true rfl) (Nat.le_of_ble_eq_true rfl) ?_
      exact ⟨rfl, A, B, rfl, fun q hq => hA q (by omega), fun p hp => hC p (by omega)⟩
    · have hFj := (hF j c48).2
      have e := hD j (Nat.le_refl _) c48
      have fin : ∀ v, v = rnm x y F j → zG z1 z2 z3 z4 z5 z6 z7 z8 z9 z10 z11 z12 z13 z14 15 4 (fun r h' => r = none ∧ ∃ (L' fresh' : Nat → Int32), h' = (mh put wrong pS pL n ci oN oC S L' oS oL labs row fresh' piece closed faces comp fof sides side free arnd) ∧ (∀ q, q < 4 * n → L' q = nI (rnm x y lab q)) ∧ ∀ p, p < 4 → fresh' p = nI (rnm x y F p)) 0 0 0 0 76 [some (.ref 0), some (.int (nI x)), some (.int (nI y)), some (.int (nI j))] [.int (nI v), .int (nI j), .ref 8] (mh put wrong pS pL n ci oN oC S A oS oL labs row B piece closed faces comp fof sides side free arnd) := by
        intro v hv
        refine zi_iast O d_Mod_rename_76 rfl rfl (by omega) (Nat.le_of_ble_eq_true rfl) (by dsimp only [List.set]) ?_
        refine zi_iincN (ls' := _ :: _ :: _ :: some _ :: _) O 1 d_Mod_rename_77 rfl (by decide) rfl (by decide) rfl ?_
        refine zi_goto O 46 d_Mod_rename_80 (by decide) ?_
        refine ih2 (j + 1, upd B j (nI v)) ⟨by dsimp only; omega, fun q hq => ?_, fun q h1 h2 => ?_⟩ (by dsimp only; omega)
        · dsimp only at hq ⊢
          by_cases c : q = j
          · rw [c, pk_us, hv]
          · rw [pk_un c]; exact hC q (by omega)
        · dsimp only at h1 ⊢
          rw [pk_un (by omega)]; exact hD q (by omega) h2
      refine zi_aload_n O d_Mod_rename_51 rfl ?_
      refine zi_get O f_Mod_35 d_Mod_rename_52 rfl rfl ?_
      refine zi_iload_n O d_Mod_rename_55 rfl ?_
      refine zi_aload_n O d_Mod_rename_56 rfl ?_
      refine zi_get O f_Mod_35 d_Mod_rename_57 rfl rfl ?_
      refine zi_iload_n O d_Mod_rename_60 rfl ?_
      refine zi_iald O d_Mod_rename_61 rfl rfl (by omega) (Nat.le_of_ble_eq_true rfl) ?_
      rw [e]
      refine zi_iload_n O d_Mod_rename_62 rfl ?_
      refine zi_icmp_neN O 70 d_Mod_rename_63 (by decide) (by omega) (by omega) (fun c63 => ?_) (fun c63 => ?_)
      · refine zi_aload_n O d_Mod_rename_70 rfl ?_
        refine zi_get O f_Mod_35 d_Mod_rename_71 rfl rfl ?_
        refine zi_iload_n O d_Mod_rename_74 rfl ?_
        refine zi_iald O d_Mod_rename_75 rfl rfl (by omega) (Nat.le_of_ble_eq_true rfl) ?_
        rw [e]
        exact fin (F j) (by unfold rnm; rw [if_neg c63])
      · refine zi_iload_n O d_Mod_rename_66 rfl ?_
        refine zi_goto O 76 d_Mod_rename_67 (by decide) ?_
        exact fin y (by unfold rnm; rw [if_pos c63])
  · have hLi := (hL i c9).2
    have e := hB i (Nat.le_refl _) c9
    have fin : ∀ v, v = rnm x y lab i → zG z1 z2 z3 z4 z5 z6 z7 z8 z9 z10 z11 z12 z13 z14 15 4 (fun r h' => r = none ∧ ∃ (L' fresh' : Nat → Int32), h' = (mh put wrong pS pL n ci oN oC S L' oS oL labs row fresh' piece closed faces comp fof sides side free arnd) ∧ (∀ q, q < 4 * n → L' q = nI (rnm x y lab q)) ∧ ∀ p, p < 4 → fresh' p = nI (rnm x y F p)) 0 0 0 0 37 [some (.ref 0), some (.int (nI x)), some (.int (nI y)), some (.int (nI i))] [.int (nI v), .int (nI i), .ref 4] (mh put wrong pS pL n ci oN oC S A oS oL labs row fresh piece closed faces comp fof sides side free arnd) := by
      intro v hv
      refine zi_iast O d_Mod_rename_37 rfl rfl (by omega) (Nat.le_of_ble_eq_true rfl) (by dsimp only [List.set]) ?_
      refine zi_iincN (ls' := _ :: _ :: _ :: some _ :: _) O 1 d_Mod_rename_38 rfl (by decide) rfl (by decide) rfl ?_
      refine zi_goto O 2 d_Mod_rename_41 (by decide) ?_
      refine ih (i + 1, upd A i (nI v)) ⟨by dsimp only; omega, fun q hq => ?_, fun q h1 h2 => ?_⟩ (by dsimp only; omega)
      · dsimp only at hq ⊢
        by_cases c : q = i
        · rw [c, pk_us, hv]
        · rw [pk_un c]; exact hA q (by omega)
      · dsimp only at h1 ⊢
        rw [pk_un (by omega)]; exact hB q (by omega) h2
    refine zi_aload_n O d_Mod_rename_12 rfl ?_
    refine zi_get O f_Mod_23 d_Mod_rename_13 rfl rfl ?_
    refine zi_iload_n O d_Mod_rename_16 rfl ?_
    refine zi_aload_n O d_Mod_rename_17 rfl ?_
    refine zi_get O f_Mod_23 d_Mod_rename_18 rfl rfl ?_
    refine zi_iload_n O d_Mod_rename_21 rfl ?_
    refine zi_iald O d_Mod_rename_22 rfl rfl (by omega) (Nat.le_of_ble_eq_true rfl) ?_
    rw [e]
    refine zi_iload_n O d_Mod_rename_23 rfl ?_
    refine zi_icmp_neN O 31 d_Mod_rename_24 (by decide) (by omega) (by omega) (fun c24 => ?_) (fun c24 => ?_)
    · refine zi_aload_n O d_Mod_rename_31 rfl ?_
      refine zi_get O f_Mod_23 d_Mod_rename_32 rfl rfl ?_
      refine zi_iload_n O d_Mod_rename_35 rfl ?_
      refine zi_iald O d_Mod_rename_36 rfl rfl (by omega) (Nat.le_of_ble_eq_true rfl) ?_
      rw [e]
      exact fin (lab i) (by unfold rnm; rw [if_neg c24])
    · refine zi_iload_n O d_Mod_rename_27 rfl ?_
      refine zi_goto O 37 d_Mod_rename_28 (by decide) ?_
      exact fin y (by unfold rnm; rw [if_pos c24])
theorem m_Mod_join {lab F : Nat → Nat} (hn : n ≤ 20) (hL : ∀ q, q < 4 * n → L q = nI (lab q) ∧ lab q ≤ 9999) (hF : ∀ p, p < 4 → fresh p = nI (F p) ∧ F p ≤ 9999) (a b : Nat) (ha : a ≤ 9999) (hb : b ≤ 9999) : zMet y_Mod_join b_Mod_join 3 none ⟨1, 0, 0, 24⟩ [.ref 0, .int (nI a), .int (nI b)] (mh put wrong pS pL n ci oN oC S L oS oL labs row fresh piece closed faces comp fof sides side free arnd)
    (fun r h' => r = none ∧ ∃ (L' fresh' : Nat → Int32), h' = (mh put wrong pS pL n (if a = b then ci + nI 1 else ci) oN oC S L' oS oL labs row fresh' piece closed faces comp fof sides side free arnd) ∧ (∀ q, q < 4 * n → L' q = nI (rnm (mx a b) (mn a b) lab q)) ∧ ∀ p, p < 4 → fresh' p = nI (rnm (mx a b) (mn a b) F p)) := by
  refine zMet_of (plainFor_of_name (by decide +kernel)) rfl (Nat.le_of_ble_eq_true rfl) (fun z1 z2 z3 z4 z5 z6 z7 z8 z9 z10 z11 z12 z13 z14 O hin => ?_)
  refine zi_ls (ls' := [some (.ref 0), some (.int (nI a)), some (.int (nI b))]) rfl ?_
  refine zi_iload_n O d_Mod_join_0 rfl ?_
  refine zi_iload_n O d_Mod_join_1 rfl ?_
  refine zi_icmp_neN O 18 d_Mod_join_2 (by decide) (by omega) (by omega) (fun c2 => ?_) (fun c2 => ?_)
  · rw [if_neg c2]
    by_cases c : a < b
    · refine zi_aload_n O d_Mod_join_18 rfl ?_
      refine zi_iload_n O d_Mod_join_19 rfl ?_
      refine zi_iload_n O d_Mod_join_20 rfl ?_
      refine zi_icmp_geN O 28 d_Mod_join_21 (by decide) (by omega) (by omega) (fun c21 => ?_) (fun c21 => ?_)
      · omega
      · refine zi_iload_n O d_Mod_join_24 rfl ?_
        refine zi_goto O 29 d_Mod_join_25 (by decide) ?_
        refine zi_iload_n O d_Mod_join_29 rfl ?_
        refine zi_iload_n O d_Mod_join_30 rfl ?_
        refine zi_icmp_geN O 38 d_Mod_join_31 (by decide) (by omega) (by omega) (fun c31 => ?_) (fun c31 => ?_)
        · omega
        · refine zi_iload_n O d_Mod_join_34 rfl ?_
          refine zi_goto O 39 d_Mod_join_35 (by decide) ?_
          refine zi_selfV O c_Mod_169 k_Mod_rename (m_Mod_rename hn hL hF b a hb ha) d_Mod_join_39 ⟨(Nat.le_of_ble_eq_true rfl), (Nat.le_of_ble_eq_true rfl)⟩ ⟨(Nat.le_of_ble_eq_true rfl), (Nat.le_of_ble_eq_true rfl)⟩ rfl rfl (Nat.le_of_ble_eq_true rfl) rfl rfl rfl (Nat.le_of_ble_eq_true rfl) rfl (fun r h' hq hl => ?_)
          obtain ⟨rfl, L', fresh', rfl, h1, h2⟩ := hq
          refine zi_st (st' := []) rfl ?_
          refine zi_vret O d_Mod_join_42 (Nat.le_of_ble_eq_true rfl) (Nat.le_of_ble_eq_true rfl) (Nat.le_of_ble_eq_true rfl) ?_
          refine ⟨rfl, L', fresh', rfl, fun q hq => ?_, fun p hp => ?_⟩
          · rw [h1 q hq, mx, mn, if_pos c, if_neg (by omega)]
          · rw [h2 p hp, mx, mn, if_pos c, if_neg (by omega)]
    · refine zi_aload_n O d_Mod_join_18 rfl ?_
      refine zi_iload_n O d_Mod_join_19 rfl ?_
      refine zi_iload_n O d_Mod_join_20 rfl ?_
      refine zi_icmp_geN O 28 d_Mod_join_21 (by decide) (by omega) (by omega) (fun c21 => ?_) (fun c21 => ?_)
      · refine zi_iload_n O d_Mod_join_28 rfl ?_
        refine zi_iload_n O d_Mod_join_29 rfl ?_
        refine zi_iload_n O d_Mod_join_30 rfl ?_
        refine zi_icmp_geN O 38 d_Mod_join_31 (by decide) (by omega) (by omega) (fun c31 => ?_) (fun c31 => ?_)
        · refine zi_iload_n O d_Mod_join_38 rfl ?_
          refine zi_selfV O c_Mod_169 k_Mod_rename (m_Mod_rename hn hL hF a b ha hb) d_Mod_join_39 ⟨(Nat.le_of_ble_eq_true rfl), (Nat.le_of_ble_eq_true rfl)⟩ ⟨(Nat.le_of_ble_eq_true rfl), (Nat.le_of_ble_eq_true rfl)⟩ rfl rfl (Nat.le_of_ble_eq_true rfl) rfl rfl rfl (Nat.le_of_ble_eq_true rfl) rfl (fun r h' hq hl => ?_)
          obtain ⟨rfl, L', fresh', rfl, h1, h2⟩ := hq
          refine zi_st (st' := []) rfl ?_
          refine zi_vret O d_Mod_join_42 (Nat.le_of_ble_eq_true rfl) (Nat.le_of_ble_eq_true rfl) (Nat.le_of_ble_eq_true rfl) ?_
          refine ⟨rfl, L', fresh', rfl, fun q hq => ?_, fun p hp => ?_⟩
          · rw [h1 q hq, mx, mn, if_neg c, if_pos (by omega)]
          · rw [h2 p hp, mx, mn, if_neg c, if_pos (by omega)]
        · omega
      · omega
  · subst c2
    rw [if_pos rfl]
    refine zi_aload_n O d_Mod_join_5 rfl ?_
    refine zi_dup O d_Mod_join_6 rfl ?_
    refine zi_get O f_Mod_104 d_Mod_join_7 rfl rfl ?_
    refine zi_iconstN O 1 d_Mod_join_10 (by decide) ?_
    first | refine zi_iaddN O d_Mod_join_11 ?_ | refine zi_iadd O d_Mod_join_11 ?_
    refine zi_put O f_Mod_104 d_Mod_join_12 rfl (Nat.le_of_ble_eq_true rfl) (fun _ => rfl) (fun _ => rfl) (by dsimp only [List.set]) ?_
    refine zi_goto O 42 d_Mod_join_15 (by decide) ?_
    refine zi_vret O d_Mod_join_42 (Nat.le_of_ble_eq_true rfl) (Nat.le_of_ble_eq_true rfl) (Nat.le_of_ble_eq_true rfl) ?_
    have e : ∀ f : Nat → Nat, ∀ q, rnm (mx a a) (mn a a) f q = f q := by
      intro f q
      have e1 : mx a a = a := by unfold mx; split <;> rfl
      have e2 : mn a a = a := by unfold mn; split <;> rfl
      rw [e1, e2]
      unfold rnm
      split
      · rename_i z; exact z.symm
      · rfl
    exact ⟨rfl, L, fresh, rfl, fun q hq => by rw [e]; exact (hL q hq).1, fun p hp => by rw [e]; exact (hF p hp).1⟩
set_option maxHeartbeats 1000000 in
theorem m_Mod_lift {lab : Nat → Nat} {S0 : Nat → Int32} (hR : RowOK n L lab) (hS : ∀ c, c < n → S c = S0 c) (c : Nat) (hc : c < n) : zMet y_Mod_lift b_Mod_lift 4 none ⟨2, 0, 0, 50⟩ [.ref 0, .int (nI c)] (mh put wrong pS pL n ci oN oC S L oS oL labs row fresh piece closed faces comp fof sides side free arnd)
    (fun r h' => r = none ∧ ∃ (L' S' fresh' : Nat → Int32), h' = (mh put wrong pS pL (n - 1) (lfC lab S0 c ci) oN oC S' L' oS oL labs row fresh' piece closed faces comp fof sides side free arnd) ∧ RowOK (n - 1) L' (lfL lab S0 c) ∧ ∀ k, k < n - 1 → S' k = rmS S0 n c k) := by
  obtain ⟨hn, hL⟩ := hR
  obtain ⟨lf1, lf2⟩ := lf_plain lab S0 c ci
  rw [lf1, lf2]
  refine zMet_of (plainFor_of_name (by decide +kernel)) rfl (Nat.le_of_ble_eq_true rfl) (fun z1 z2 z3 z4 z5 z6 z7 z8 z9 z10 z11 z12 z13 z14 O hin => ?_)
  refine zi_ls (ls' := [some (.ref 0), some (.int (nI c)), none, none]) rfl ?_
  refine zi_iconstN O 0 d_Mod_lift_0 (by decide) ?_
  refine zi_istore_n (ls' := _ :: _ :: some _ :: _) O d_Mod_lift_1 rfl (by decide) rfl ?_
  refine zi_loop (σ := Nat × (Nat → Int32)) (fun s => [some (.ref 0), some (.int (nI c)), some (.int (nI s.1)), none]) (fun s => (mh put wrong pS pL n ci oN oC S L oS oL labs row (s.2) piece closed faces comp fof sides side free arnd)) (fun s => s.1 ≤ 4 ∧ ∀ p, p < s.1 → s.2 p = nI (lab (4 * c + p))) (fun s => 4 - s.1) (0, fresh) rfl rfl ⟨Nat.zero_le _, fun q hq => absurd hq (Nat.not_lt_zero q)⟩ ?_
  rintro ⟨i, A⟩ ⟨hi, hA⟩ ih
  dsimp only at hi hA ih ⊢
  refine zi_iload_n O d_Mod_lift_2 rfl ?_
  refine zi_iconstN O 4 d_Mod_lift_3 (by decide) ?_
  refine zi_icmp_geN O 29 d_Mod_lift_4 (by decide) (by omega) (by omega) (fun c4 => ?_) (fun c4 => ?_)
  · refine zi_aload_n O d_Mod_lift_29 rfl ?_
    refine zi_dup O d_Mod_lift_30 rfl ?_
    refine zi_get O f_Mod_59 d_Mod_lift_31 rfl rfl ?_
    refine zi_iconstN O 1 d_Mod_lift_34 (by decide) ?_
    first | refine zi_isubN O d_Mod_lift_35 (by omega) ?_ | refine zi_isub O d_Mod_lift_35 ?_
    refine zi_put O f_Mod_59 d_Mod_lift_36 rfl (Nat.le_of_ble_eq_true rfl) (fun _ => rfl) (fun _ => rfl) (by dsimp only [List.set]) ?_
    refine zi_iload_n O d_Mod_lift_39 rfl ?_
    refine zi_istore_n (ls' := _ :: _ :: some _ :: _) O d_Mod_lift_40 rfl (by decide) rfl ?_
    refine zi_loop (σ := Nat × (Nat → Int32) × (Nat → Int32)) (fun s => [some (.ref 0), some (.int (nI c)), some (.int (nI s.1)), none]) (fun s => (mh put wrong pS pL (n - 1) ci oN oC (s.2.1) (s.2.2) oS oL labs row A piece closed faces comp fof sides side free arnd)) (fun s => c ≤ s.1 ∧ s.1 ≤ n - 1 ∧ (∀ k, k < s.1 → s.2.1 k = S (if k < c then k else k + 1)) ∧ (∀ k, s.1 ≤ k → s.2.1 k = S k) ∧ (∀ q, q < 4 * s.1 → s.2.2 q = L (if q < 4 * c then q else q + 4)) ∧ ∀ q, 4 * s.1 ≤ q → s.2.2 q = L q) (fun s => n - 1 - s.1) (c, S, L) rfl rfl ⟨Nat.le_refl _, by dsimp only; omega, fun k hk => by dsimp only at hk ⊢; rw [if_pos hk], fun k hk => rfl, fun q hq => by dsimp only at hq ⊢; rw [if_pos hq], fun q hq => rfl⟩ ?_
    rintro ⟨k, S1, L1⟩ ⟨k1, k2, s1, s2, l1, l2⟩ ih2
    dsimp only at k1 k2 s1 s2 l1 l2 ih2 ⊢
    refine zi_iload_n O d_Mod_lift_41 rfl ?_
    refine zi_aload_n O d_Mod_lift_42 rfl ?_
    refine zi_get O f_Mod_59 d_Mod_lift_43 rfl rfl ?_
    refine zi_icmp_geN O 104 d_Mod_lift_46 (by decide) (by omega) (by omega) (fun c46 => ?_) (fun c46 => ?_)
    · have hk : k = n - 1 := by omega
      subst hk
      have hA2 : ∀ p, p < 4 → A p = nI (lab (4 * c + p)) ∧ lab (4 * c + p) ≤ 9999 := fun p hp => ⟨hA p (by omega), by have := hL (4 * c + p) (by omega); omega⟩
      have hL1 : ∀ q, q < 4 * (n - 1) → L1 q = nI (rmL lab c q) ∧ rmL lab c q ≤ 9999 := by
        intro q hq
        rw [l1 q hq]
        unfold rmL
        split
        · have := hL q (by omega); exact ⟨this.1, by omega⟩
        · have := hL (q + 4) (by omega); exact ⟨this.1, by omega⟩
      have b0 := (hA2 0 (by decide)).2
      have b1 := (hA2 1 (by decide)).2
      have b2 := (hA2 2 (by decide)).2
      have b3 := (hA2 3 (by decide)).2
      have hjb := jl_bd (lab := lab) (n := n) (fun q hq => (hL q hq).2) (a := 4 * c) (b := 4 * c + 2) (by omega) (by omega)
      have hjb2 := jl_bd hjb (a := 4 * c + 1) (b := 4 * c + 3) (by omega) (by omega)
      refine zi_aload_n O d_Mod_lift_104 rfl ?_
      refine zi_aload_n O d_Mod_lift_105 rfl ?_
      refine zi_get O f_Mod_35 d_Mod_lift_106 rfl rfl ?_
      refine zi_iconstN O 0 d_Mod_lift_109 (by decide) ?_
      refine zi_iald O d_Mod_lift_110 rfl rfl (by omega) (Nat.le_of_ble_eq_true rfl) ?_
      rw [(hA2 0 (by decide)).1]
      refine zi_aload_n O d_Mod_lift_111 rfl ?_
      refine zi_get O f_Mod_35 d_Mod_lift_112 rfl rfl ?_
      refine zi_iconstN O 2 d_Mod_lift_115 (by decide) ?_
      refine zi_iald O d_Mod_lift_116 rfl rfl (by omega) (Nat.le_of_ble_eq_true rfl) ?_
      rw [(hA2 2 (by decide)).1]
      refine zi_selfV O c_Mod_173 k_Mod_join (m_Mod_join (lab := rmL lab c) (F := fun p => lab (4 * c + p)) (by omega) hL1 hA2 (lab (4 * c + 0)) (lab (4 * c + 2)) b0 b2) d_Mod_lift_117 ⟨(Nat.le_of_ble_eq_true rfl), (Nat.le_of_ble_eq_true rfl)⟩ ⟨(Nat.le_of_ble_eq_true rfl), (Nat.le_of_ble_eq_true rfl)⟩ rfl rfl (Nat.le_of_ble_eq_true rfl) rfl rfl rfl (Nat.le_of_ble_eq_true rfl) rfl (fun r h' hq hl => ?_)
      obtain ⟨rfl, L2, F2, rfl, e1, e2⟩ := hq
      refine zi_st (st' := []) rfl ?_
      have e1' : ∀ q, q < 4 * (n - 1) → L2 q = nI (rmL (jl lab (4 * c) (4 * c + 2)) c q) ∧ rmL (jl lab (4 * c) (4 * c + 2)) c q ≤ 9999 := by
        intro q hq
        rw [e1 q hq]
        unfold rnm rmL
        split
        · exact ⟨rfl, (hjb q (by omega)).2⟩
        · exact ⟨rfl, (hjb (q + 4) (by omega)).2⟩
      have e2' : ∀ p, p < 4 → F2 p = nI (jl lab (4 * c) (4 * c + 2) (4 * c + p)) ∧ jl lab (4 * c) (4 * c + 2) (4 * c + p) ≤ 9999 := fun p hp => ⟨by rw [e2 p hp]; rfl, (hjb (4 * c + p) (by omega)).2⟩
      have d1 := (e2' 1 (by decide)).2
      have d3 := (e2' 3 (by decide)).2
      refine zi_aload_n O d_Mod_lift_120 rfl ?_
      refine zi_aload_n O d_Mod_lift_121 rfl ?_
      refine zi_get O f_Mod_35 d_Mod_lift_122 rfl rfl ?_
      refine zi_iconstN O 1 d_Mod_lift_125 (by decide) ?_
      refine zi_iald O d_Mod_lift_126 rfl rfl (by omega) (Nat.le_of_ble_eq_true rfl) ?_
      rw [(e2' 1 (by decide)).1]
      refine zi_aload_n O d_Mod_lift_127 rfl ?_
      refine zi_get O f_Mod_35 d_Mod_lift_128 rfl rfl ?_
      refine zi_iconstN O 3 d_Mod_lift_131 (by decide) ?_
      refine zi_iald O d_Mod_lift_132 rfl rfl (by omega) (Nat.le_of_ble_eq_true rfl) ?_
      rw [(e2' 3 (by decide)).1]
      refine zi_selfV O c_Mod_173 k_Mod_join (m_Mod_join (lab := rmL (jl lab (4 * c) (4 * c + 2)) c) (F := fun p => jl lab (4 * c) (4 * c + 2) (4 * c + p)) (by omega) e1' e2' (jl lab (4 * c) (4 * c + 2) (4 * c + 1)) (jl lab (4 * c) (4 * c + 2) (4 * c + 3)) d1 d3) d_Mod_lift_133 ⟨(Nat.le_of_ble_eq_true rfl), (Nat.le_of_ble_eq_true rfl)⟩ ⟨(Nat.le_of_ble_eq_true rfl), (Nat.le_of_ble_eq_true rfl)⟩ rfl rfl (Nat.le_of_ble_eq_true rfl) rfl rfl rfl (Nat.le_of_ble_eq_true rfl) rfl (fun r h' hq hl => ?_)
      obtain ⟨rfl, L3, F3, rfl, e3, e4⟩ := hq
      refine zi_st (st' := []) rfl ?_
      refine zi_vret O d_Mod_lift_136 (Nat.le_of_ble_eq_true rfl) (Nat.le_of_ble_eq_true rfl) (Nat.le_of_ble_eq_true rfl) ?_
      refine ⟨rfl, L3, S1, F3, rfl, ⟨by omega, fun q hq => ?_⟩, fun k hk => ?_⟩
      · rw [e3 q hq]
        unfold rnm
        unfold rmL
        split
        · exact ⟨rfl, hjb2 q (by omega)⟩
        · exact ⟨rfl, hjb2 (q + 4) (by omega)⟩
      · rw [s1 k hk, rmS_at hc hk]
        split
        · exact hS k (by omega)
        · exact hS (k + 1) (by omega)
    · refine zi_aload_n O d_Mod_lift_49 rfl ?_
      refine zi_get O f_Mod_20 d_Mod_lift_50 rfl rfl ?_
      refine zi_iload_n O d_Mod_lift_53 rfl ?_
      refine zi_aload_n O d_Mod_lift_54 rfl ?_
      refine zi_get O f_Mod_20 d_Mod_lift_55 rfl rfl ?_
      refine zi_iload_n O d_Mod_lift_58 rfl ?_
      refine zi_iconstN O 1 d_Mod_lift_59 (by decide) ?_
      first | refine zi_iaddN O d_Mod_lift_60 ?_ | refine zi_iadd O d_Mod_lift_60 ?_
      refine zi_iald O d_Mod_lift_61 rfl rfl (by omega) (Nat.le_of_ble_eq_true rfl) ?_
      refine zi_iast O d_Mod_lift_62 rfl rfl (by omega) (Nat.le_of_ble_eq_true rfl) (by dsimp only [List.set]) ?_
      refine zi_iconstN O 0 d_Mod_lift_63 (by decide) ?_
      refine zi_istore_n (ls' := _ :: _ :: _ :: some _ :: _) O d_Mod_lift_64 rfl (by decide) rfl ?_
      refine zi_loop (σ := Nat × (Nat → Int32)) (fun s => [some (.ref 0), some (.int (nI c)), some (.int (nI k)), some (.int (nI s.1))]) (fun s => (mh put wrong pS pL (n - 1) ci oN oC (upd S1 k (S1 (k + 1))) (s.2) oS oL labs row A piece closed faces comp fof sides side free arnd)) (fun s => s.1 ≤ 4 ∧ (∀ q, q < 4 * k + s.1 → s.2 q = L (if q < 4 * c then q else q + 4)) ∧ ∀ q, 4 * k + s.1 ≤ q → s.2 q = L q) (fun s => 4 - s.1) (0, L1) rfl rfl ⟨Nat.zero_le _, l1, l2⟩ ?_
      rintro ⟨j, L2⟩ ⟨hj, m1, m2⟩ ih3
      dsimp only at hj m1 m2 ih3 ⊢
      refine zi_iload_n O d_Mod_lift_65 rfl ?_
      refine zi_iconstN O 4 d_Mod_lift_66 (by decide) ?_
      refine zi_icmp_geN O 98 d_Mod_lift_67 (by decide) (by omega) (by omega) (fun c67 => ?_) (fun c67 => ?_)
      · have hj4 : j = 4 := by omega
        subst hj4
        refine zi_iincN (ls' := _ :: _ :: some _ :: _) O 1 d_Mod_lift_98 rfl (by decide) rfl (by decide) rfl ?_
        refine zi_goto O 41 d_Mod_lift_101 (by decide) ?_
        refine zi_no 3 (ls' := _ :: _ :: _ :: none :: _) rfl ?_
        refine ih2 (k + 1, upd S1 k (S1 (k + 1)), L2) ⟨by dsimp only; omega, by dsimp only; omega, fun q hq => ?_, fun q hq => ?_, fun q hq => m1 q (by dsimp only at hq; omega), fun q hq => m2 q (by dsimp only at hq; omega)⟩ (by dsimp only; omega)
        · dsimp only at hq ⊢
          by_cases e : q = k
          · rw [e, pk_us, if_neg (by omega), s2 (k + 1) (by omega)]
          · rw [pk_un e]; exact s1 q (by omega)
        · dsimp only at hq ⊢
          rw [pk_un (by omega)]; exact s2 q (by omega)
      · refine zi_aload_n O d_Mod_lift_70 rfl ?_
        refine zi_get O f_Mod_23 d_Mod_lift_71 rfl rfl ?_
        refine zi_iconstN O 4 d_Mod_lift_74 (by decide) ?_
        refine zi_iload_n O d_Mod_lift_75 rfl ?_
        first | refine zi_imulN O d_Mod_lift_76 ?_ | refine zi_imul O d_Mod_lift_76 ?_
        refine zi_iload_n O d_Mod_lift_77 rfl ?_
        first | refine zi_iaddN O d_Mod_lift_78 ?_ | refine zi_iadd O d_Mod_lift_78 ?_
        refine zi_aload_n O d_Mod_lift_79 rfl ?_
        refine zi_get O f_Mod_23 d_Mod_lift_80 rfl rfl ?_
        refine zi_iconstN O 4 d_Mod_lift_83 (by decide) ?_
        refine zi_iload_n O d_Mod_lift_84 rfl ?_
        first | refine zi_imulN O d_Mod_lift_85 ?_ | refine zi_imul O d_Mod_lift_85 ?_
        refine zi_iconstN O 4 d_Mod_lift_86 (by decide) ?_
        first | refine zi_iaddN O d_Mod_lift_87 ?_ | refine zi_iadd O d_Mod_lift_87 ?_
        refine zi_iload_n O d_Mod_lift_88 rfl ?_
        first | refine zi_iaddN O d_Mod_lift_89 ?_ | refine zi_iadd O d_Mod_lift_89 ?_
        refine zi_iald O d_Mod_lift_90 rfl rfl (by omega) (Nat.le_of_ble_eq_true rfl) ?_
        refine zi_iast O d_Mod_lift_91 rfl rfl (by omega) (Nat.le_of_ble_eq_true rfl) (by dsimp only [List.set]) ?_
        refine zi_iincN (ls' := _ :: _ :: _ :: some _ :: _) O 1 d_Mod_lift_92 rfl (by decide) rfl (by decide) rfl ?_
        refine zi_goto O 65 d_Mod_lift_95 (by decide) ?_
        refine ih3 (j + 1, upd L2 (4 * k + j) (L2 (4 * k + 4 + j))) ⟨by dsimp only; omega, fun q hq => ?_, fun q hq => ?_⟩ (by dsimp only; omega)
        · dsimp only at hq ⊢
          by_cases e : q = 4 * k + j
          · rw [e, pk_us, if_neg (by omega), m2 _ (by omega)]
            congr 1
            omega
          · rw [pk_un e]; exact m1 q (by omega)
        · dsimp only at hq ⊢
          rw [pk_un (by omega)]; exact m2 q (by omega)
  · have hl := hL (4 * c + i) (by omega)
    refine zi_aload_n O d_Mod_lift_7 rfl ?_
    refine zi_get O f_Mod_35 d_Mod_lift_8 rfl rfl ?_
    refine zi_iload_n O d_Mod_lift_11 rfl ?_
    refine zi_aload_n O d_Mod_lift_12 rfl ?_
    refine zi_get O f_Mod_23 d_Mod_lift_13 rfl rfl ?_
    refine zi_iconstN O 4 d_Mod_lift_16 (by decide) ?_
    refine zi_iload_n O d_Mod_lift_17 rfl ?_
    first | refine zi_imulN O d_Mod_lift_18 ?_ | refine zi_imul O d_Mod_lift_18 ?_
    refine zi_iload_n O d_Mod_lift_19 rfl ?_
    first | refine zi_iaddN O d_Mod_lift_20 ?_ | refine zi_iadd O d_Mod_lift_20 ?_
    refine zi_iald O d_Mod_lift_21 rfl rfl (by omega) (Nat.le_of_ble_eq_true rfl) ?_
    rw [hl.1]
    refine zi_iast O d_Mod_lift_22 rfl rfl (by omega) (Nat.le_of_ble_eq_true rfl) (by dsimp only [List.set]) ?_
    refine zi_iincN (ls' := _ :: _ :: some _ :: _) O 1 d_Mod_lift_23 rfl (by decide) rfl (by decide) rfl ?_
    refine zi_goto O 2 d_Mod_lift_26 (by decide) ?_
    refine ih (i + 1, upd A i (nI (lab (4 * c + i)))) ⟨by dsimp only; omega, fun q hq => ?_⟩ (by dsimp only; omega)
    dsimp only at hq ⊢
    by_cases e : q = i
    · rw [e, pk_us]
    · rw [pk_un e]; exact hA q (by omega)
end
