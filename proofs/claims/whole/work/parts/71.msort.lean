/-! The model: sort -/
def Srt (k : Nat) (lab : Nat → Nat) (m : Nat) (rw_ : Nat → Nat) : Prop := m ≤ k ∧ (∀ i j, i < j → j < m → rw_ i < rw_ j) ∧ (∀ q, q < k → ∃ i, i < m ∧ rw_ i = lab q) ∧ ∀ i, i < m → ∃ q, q < k ∧ rw_ i = lab q
def hs (rw_ : Nat → Nat) (l : Nat) : Nat → Nat
  | 0 => 0
  | i + 1 => if hs rw_ l i = 1 then 1 else if rw_ i = l then 1 else 0
theorem hs_01 (rw_ : Nat → Nat) (l : Nat) : ∀ i, (hs rw_ l i = 0 ∧ ∀ j, j < i → rw_ j ≠ l) ∨ (hs rw_ l i = 1 ∧ ∃ j, j < i ∧ rw_ j = l)
  | 0 => Or.inl ⟨rfl, fun j hj => absurd hj (Nat.not_lt_zero j)⟩
  | i + 1 => by
    rw [hs]
    rcases hs_01 rw_ l i with ⟨h1, h2⟩ | ⟨h1, j, h2, h3⟩
    · rw [h1, if_neg (by omega)]
      by_cases c : rw_ i = l
      · exact Or.inr ⟨if_pos c, i, by omega, c⟩
      · refine Or.inl ⟨if_neg c, fun j hj => ?_⟩
        by_cases e : j = i
        · rw [e]; exact c
        · exact h2 j (by omega)
    · exact Or.inr ⟨by rw [h1, if_pos rfl], j, by omega, h3⟩
theorem srt_old {k m : Nat} {lab rw_ : Nat → Nat} (h : Srt k lab m rw_) (hin : ∃ j, j < m ∧ rw_ j = lab k) : Srt (k + 1) lab m rw_ := by
  obtain ⟨h0, h1, h2, h3⟩ := h
  refine ⟨by omega, h1, fun q hq => ?_, fun i hi => ?_⟩
  · by_cases e : q = k
    · rw [e]; exact hin
    · exact h2 q (by omega)
  · obtain ⟨q, q1, q2⟩ := h3 i hi
    exact ⟨q, by omega, q2⟩
theorem srt_ins {k m t : Nat} {lab rw_ : Nat → Nat} (h : Srt k lab m rw_) (ht : t ≤ m) (hlo : 0 < t → rw_ (t - 1) < lab k) (hhi : ∀ j, t ≤ j → j < m → lab k < rw_ j) : Srt (k + 1) lab (m + 1) (fun j => if j < t then rw_ j else if j = t then lab k else rw_ (j - 1)) := by
  obtain ⟨h0, h1, h2, h3⟩ := h
  have hlo2 : ∀ j, j < t → rw_ j < lab k := by
    intro j hj
    have a := hlo (by omega)
    by_cases e : j = t - 1
    · rw [e]; exact a
    · have := h1 j (t - 1) (by omega) (by omega); omega
  refine ⟨by omega, fun i j hij hj => ?_, fun q hq => ?_, fun i hi => ?_⟩
  · dsimp only
    by_cases c1 : j < t
    · rw [if_pos c1, if_pos (by omega)]; exact h1 i j hij (by omega)
    · rw [if_neg c1]
      by_cases c2 : j = t
      · rw [if_pos c2, if_pos (by omega)]; exact hlo2 i (by omega)
      · rw [if_neg c2]
        by_cases c3 : i < t
        · rw [if_pos c3]
          have := hlo2 i c3
          have := hhi (j - 1) (by omega) (by omega)
          omega
        · rw [if_neg c3]
          by_cases c4 : i = t
          · rw [if_pos c4]; exact hhi (j - 1) (by omega) (by omega)
          · rw [if_neg c4]; exact h1 (i - 1) (j - 1) (by omega) (by omega)
  · by_cases e : q = k
    · refine ⟨t, by omega, ?_⟩
      dsimp only
      rw [if_neg (by omega), if_pos rfl, e]
    · obtain ⟨i, i1, i2⟩ := h2 q (by omega)
      by_cases c : i < t
      · exact ⟨i, by omega, by dsimp only; rw [if_pos c, i2]⟩
      · refine ⟨i + 1, by omega, ?_⟩
        dsimp only
        rw [if_neg (by omega), if_neg (by omega)]
        exact i2
  · dsimp only
    split
    · obtain ⟨q, q1, q2⟩ := h3 i (by omega); exact ⟨q, by omega, q2⟩
    · split
      · exact ⟨k, by omega, rfl⟩
      · obtain ⟨q, q1, q2⟩ := h3 (i - 1) (by omega); exact ⟨q, by omega, q2⟩
theorem srt_ed {n m : Nat} {lab : Nat → Nat} {S : Nat → Int32} {el fr to_ at_ rw_ : Nat → Nat} (h : Ed n lab S el fr to_ at_) (hs : Srt (4 * n) lab m rw_) : m = 2 * n ∧ ∀ i, i < 2 * n → rw_ i = el i := by
  obtain ⟨-, h1, h2, h3⟩ := hs
  have hel : ∀ i, i < 2 * n → ∃ j, j < m ∧ rw_ j = el i := by
    intro i hi
    obtain ⟨f1, -, f3, -⟩ := h.1 i hi
    obtain ⟨j, j1, j2⟩ := h2 _ f1
    exact ⟨j, j1, j2.trans f3⟩
  have hrw : ∀ j, j < m → ∃ i, i < 2 * n ∧ rw_ j = el i := by
    intro j hj
    obtain ⟨q, q1, q2⟩ := h3 j hj
    exact ⟨at_ q, (h.2.2 q q1).1, q2.trans (lab_at h q1)⟩
  have key : ∀ i, (i < 2 * n → i < m ∧ rw_ i = el i) ∧ (i < m → i < 2 * n) := by
    intro i
    induction i using Nat.strongRecOn with
    | _ i ih =>
      have a : i < 2 * n → i < m ∧ rw_ i = el i := by
        intro hi
        obtain ⟨j, j1, j2⟩ := hel i hi
        have hij : ¬ j < i := by
          intro c
          have := (ih j c).1 (by omega)
          have := h.2.1 j i c hi
          omega
        have him : i < m := by omega
        obtain ⟨e, e1, e2⟩ := hrw i him
        by_cases c : j = i
        · exact ⟨him, by rw [c] at j2; exact j2⟩
        · have := h1 i j (by omega) j1
          by_cases c2 : e < i
          · have q1 := (ih e c2).1 e1
            have := h1 e i c2 him
            omega
          · by_cases c3 : e = i
            · rw [c3] at e2; exact ⟨him, e2⟩
            · have := h.2.1 i e (by omega) e1
              omega
      refine ⟨a, fun him => ?_⟩
      obtain ⟨e, e1, e2⟩ := hrw i him
      by_cases c2 : e < i
      · have q1 := (ih e c2).1 e1
        have := h1 e i c2 him
        omega
      · omega
  refine ⟨?_, fun i hi => ((key i).1 hi).2⟩
  have a1 : ¬ m < 2 * n := fun z => by have := ((key m).1 z).1; omega
  have a2 : ¬ 2 * n < m := fun z => by have := (key (2 * n)).2 z; omega
  omega
section
variable {put n oN labs closed faces sides : Nat} {wrong ci oC : Int32} {pS pL S L oS oL row fresh piece comp fof side free arnd : Nat → Int32}
set_option maxHeartbeats 1000000 in
theorem m_Mod_sort (lab : Nat → Nat) (hR : RowOK n L lab) : zMet y_Mod_sort b_Mod_sort 4 none ⟨0, 0, 0, 0⟩ [.ref 0] (mh put wrong pS pL n ci oN oC S L oS oL labs row fresh piece closed faces comp fof sides side free arnd)
    (fun r h' => r = none ∧ ∃ (m : Nat) (row' : Nat → Int32) (rw_ : Nat → Nat), h' = (mh put wrong pS pL n ci oN oC S L oS oL m row' fresh piece closed faces comp fof sides side free arnd) ∧ (∀ i, i < m → row' i = nI (rw_ i)) ∧ Srt (4 * n) lab m rw_) := by
  obtain ⟨hn, hL⟩ := hR
  refine zMet_of (plainFor_of_name (by decide +kernel)) rfl (Nat.le_of_ble_eq_true rfl) (fun z1 z2 z3 z4 z5 z6 z7 z8 z9 z10 z11 z12 z13 z14 O hin => ?_)
  refine zi_ls (ls' := [some (.ref 0), none, none, none]) rfl ?_
  refine zi_aload_n O d_Mod_sort_0 rfl ?_
  refine zi_iconstN O 0 d_Mod_sort_1 (by decide) ?_
  refine zi_put O f_Mod_74 d_Mod_sort_2 rfl (Nat.le_of_ble_eq_true rfl) (fun _ => rfl) (fun _ => rfl) (by dsimp only [List.set]) ?_
  refine zi_iconstN O 0 d_Mod_sort_5 (by decide) ?_
  refine zi_istore_n (ls' := _ :: some _ :: _) O d_Mod_sort_6 rfl (by decide) rfl ?_
  refine zi_loop (σ := Nat × Nat × (Nat → Int32)) (fun x => [some (.ref 0), some (.int (nI x.1)), none, none]) (fun x => (mh put wrong pS pL n ci oN oC S L oS oL (x.2.1) (x.2.2) fresh piece closed faces comp fof sides side free arnd))
    (fun x => x.1 ≤ 4 * n ∧ ∃ rw_ : Nat → Nat, (∀ i, i < x.2.1 → x.2.2 i = nI (rw_ i)) ∧ Srt x.1 lab x.2.1 rw_) (fun x => 4 * n - x.1) (0, 0, row) rfl rfl ⟨Nat.zero_le _, fun _ => 0, fun i hi => absurd hi (Nat.not_lt_zero i), Nat.le_refl _, fun i j _ hj => absurd hj (Nat.not_lt_zero j), fun i hi => absurd hi (Nat.not_lt_zero i), fun i hi => absurd hi (Nat.not_lt_zero i)⟩ ?_
  rintro ⟨k, m, R⟩ ⟨hk, rw_, hRw, hS⟩ ih
  dsimp only at hk hRw hS ih ⊢
  have hm := hS.1
  refine zi_iload_n O d_Mod_sort_7 rfl ?_
  refine zi_iconstN O 4 d_Mod_sort_8 (by decide) ?_
  refine zi_aload_n O d_Mod_sort_9 rfl ?_
  refine zi_get O f_Mod_59 d_Mod_sort_10 rfl rfl ?_
  first | refine zi_imulN O d_Mod_sort_13 ?_ | refine zi_imul O d_Mod_sort_13 ?_
  refine zi_icmp_geN O 138 d_Mod_sort_14 (by decide) (by omega) (by omega) (fun c14 => ?_) (fun c14 => ?_)
  · refine zi_vret O d_Mod_sort_138 (Nat.le_of_ble_eq_true rfl) (Nat.le_of_ble_eq_true rfl) (Nat.le_of_ble_eq_true rfl) ?_
    have : k = 4 * n := by omega
    subst this
    exact ⟨rfl, m, R, rw_, rfl, hRw, hS⟩
  · obtain ⟨l1, l2, l3⟩ := hL k (by omega)
    have hb : ∀ i, i < m → rw_ i ≤ 9999 := fun i hi => by
      obtain ⟨q, q1, q2⟩ := hS.2.2.2 i hi
      have := hL q (by omega)
      omega
    refine zi_iconstN O 0 d_Mod_sort_17 (by decide) ?_
    refine zi_istore_n (ls' := _ :: _ :: some _ :: _) O d_Mod_sort_18 rfl (by decide) rfl ?_
    refine zi_iconstN O 0 d_Mod_sort_19 (by decide) ?_
    refine zi_istore_n (ls' := _ :: _ :: _ :: some _ :: _) O d_Mod_sort_20 rfl (by decide) rfl ?_
    refine zi_for (fun i => [some (.ref 0), some (.int (nI k)), some (.int (nI (hs rw_ (lab k) i))), some (.int (nI i))]) (fun _ => (mh put wrong pS pL n ci oN oC S L oS oL m R fresh piece closed faces comp fof sides side free arnd)) 0 m (by omega) rfl rfl (fun i _ hi ih2 => ?_) ?_
    · have hbi := hb i hi
      rw [hs] at ih2
      refine zi_iload_n O d_Mod_sort_21 rfl ?_
      refine zi_aload_n O d_Mod_sort_22 rfl ?_
      refine zi_get O f_Mod_74 d_Mod_sort_23 rfl rfl ?_
      refine zi_icmp_geN O 60 d_Mod_sort_26 (by decide) (by omega) (by omega) (fun c26 => ?_) (fun c26 => ?_)
      · omega
      · rcases hs_01 rw_ (lab k) i with ⟨g1, g2⟩ | ⟨g1, g2⟩
        · rw [g1, if_neg (by omega)] at ih2
          rw [g1]
          refine zi_iload_n O d_Mod_sort_29 rfl ?_
          refine zi_if_ne O 48 d_Mod_sort_30 (by decide) (fun c30 => ?_) (fun c30 => ?_)
          · exact absurd rfl c30
          · refine zi_aload_n O d_Mod_sort_33 rfl ?_
            refine zi_get O f_Mod_32 d_Mod_sort_34 rfl rfl ?_
            refine zi_iload_n O d_Mod_sort_37 rfl ?_
            refine zi_iald O d_Mod_sort_38 rfl rfl (by omega) (Nat.le_of_ble_eq_true rfl) ?_
            rw [hRw i hi]
            refine zi_aload_n O d_Mod_sort_39 rfl ?_
            refine zi_get O f_Mod_23 d_Mod_sort_40 rfl rfl ?_
            refine zi_iload_n O d_Mod_sort_43 rfl ?_
            refine zi_iald O d_Mod_sort_44 rfl rfl (by omega) (Nat.le_of_ble_eq_true rfl) ?_
            rw [l1]
            refine zi_icmp_neN O 52 d_Mod_sort_45 (by decide) (by omega) (by omega) (fun c45 => ?_) (fun c45 => ?_)
            · rw [if_neg c45] at ih2
              refine zi_iconstN O 0 d_Mod_sort_52 (by decide) ?_
              refine zi_istore_n (ls' := _ :: _ :: some _ :: _) O d_Mod_sort_53 rfl (by decide) rfl ?_
              refine zi_iincN (ls' := _ :: _ :: _ :: some _ :: _) O 1 d_Mod_sort_54 rfl (by decide) rfl (by decide) rfl ?_
              refine zi_goto O 21 d_Mod_sort_57 (by decide) ?_
              exact ih2
            · rw [if_pos c45] at ih2
              refine zi_iconstN O 1 d_Mod_sort_48 (by decide) ?_
              refine zi_goto O 53 d_Mod_sort_49 (by decide) ?_
              refine zi_istore_n (ls' := _ :: _ :: some _ :: _) O d_Mod_sort_53 rfl (by decide) rfl ?_
              refine zi_iincN (ls' := _ :: _ :: _ :: some _ :: _) O 1 d_Mod_sort_54 rfl (by decide) rfl (by decide) rfl ?_
              refine zi_goto O 21 d_Mod_sort_57 (by decide) ?_
              exact ih2
        · rw [g1, if_pos rfl] at ih2
          rw [g1]
          refine zi_iload_n O d_Mod_sort_29 rfl ?_
          refine zi_if_ne O 48 d_Mod_sort_30 (by decide) (fun c30 => ?_) (fun c30 => ?_)
          · refine zi_iconstN O 1 d_Mod_sort_48 (by decide) ?_
            refine zi_goto O 53 d_Mod_sort_49 (by decide) ?_
            refine zi_istore_n (ls' := _ :: _ :: some _ :: _) O d_Mod_sort_53 rfl (by decide) rfl ?_
            refine zi_iincN (ls' := _ :: _ :: _ :: some _ :: _) O 1 d_Mod_sort_54 rfl (by decide) rfl (by decide) rfl ?_
            refine zi_goto O 21 d_Mod_sort_57 (by decide) ?_
            exact ih2
          · exact absurd c30 (by decide)
    · refine zi_iload_n O d_Mod_sort_21 rfl ?_
      refine zi_aload_n O d_Mod_sort_22 rfl ?_
      refine zi_get O f_Mod_74 d_Mod_sort_23 rfl rfl ?_
      refine zi_icmp_geN O 60 d_Mod_sort_26 (by decide) (by omega) (by omega) (fun c26 => ?_) (fun c26 => ?_)
      · rcases hs_01 rw_ (lab k) m with ⟨g1, g2⟩ | ⟨g1, g2⟩
        · rw [g1]
          refine zi_iload_n O d_Mod_sort_60 rfl ?_
          refine zi_if_ne O 132 d_Mod_sort_61 (by decide) (fun c61 => ?_) (fun c61 => ?_)
          · exact absurd rfl c61
          · refine zi_aload_n O d_Mod_sort_64 rfl ?_
            refine zi_get O f_Mod_74 d_Mod_sort_65 rfl rfl ?_
            refine zi_istore_n (ls' := _ :: _ :: _ :: some _ :: _) O d_Mod_sort_68 rfl (by decide) rfl ?_
            refine zi_loop (σ := Nat × (Nat → Int32)) (fun x => [some (.ref 0), some (.int (nI k)), some (.int (nI 0)), some (.int (nI x.1))]) (fun x => (mh put wrong pS pL n ci oN oC S L oS oL m (x.2) fresh piece closed faces comp fof sides side free arnd))
              (fun x => x.1 ≤ m ∧ (∀ j, j < x.1 → x.2 j = nI (rw_ j)) ∧ (∀ j, x.1 < j → j ≤ m → x.2 j = nI (rw_ (j - 1))) ∧ ∀ j, x.1 ≤ j → j < m → lab k < rw_ j) (fun x => x.1) (m, R) rfl rfl ⟨Nat.le_refl _, hRw, fun j h1 h2 => absurd h1 (by omega), fun j h1 h2 => absurd h1 (by omega)⟩ ?_
            rintro ⟨t, PT⟩ ⟨ht, hlo, hhi, hgt⟩ ih3
            dsimp only at ht hlo hhi hgt ih3 ⊢
            have fin : (0 < t → rw_ (t - 1) < lab k) → zG z1 z2 z3 z4 z5 z6 z7 z8 z9 z10 z11 z12 z13 z14 15 4 (fun r h' => r = none ∧ ∃ (m : Nat) (row' : Nat → Int32) (rw_ : Nat → Nat), h' = (mh put wrong pS pL n ci oN oC S L oS oL m row' fresh piece closed faces comp fof sides side free arnd) ∧ (∀ i, i < m → row' i = nI (rw_ i)) ∧ Srt (4 * n) lab m rw_) 0 0 0 0 110 [some (.ref 0), some (.int (nI k)), some (.int (nI 0)), some (.int (nI t))] [] (mh put wrong pS pL n ci oN oC S L oS oL m PT fresh piece closed faces comp fof sides side free arnd) := by
              intro hst
              refine zi_aload_n O d_Mod_sort_110 rfl ?_
              refine zi_get O f_Mod_32 d_Mod_sort_111 rfl rfl ?_
              refine zi_iload_n O d_Mod_sort_114 rfl ?_
              refine zi_aload_n O d_Mod_sort_115 rfl ?_
              refine zi_get O f_Mod_23 d_Mod_sort_116 rfl rfl ?_
              refine zi_iload_n O d_Mod_sort_119 rfl ?_
              refine zi_iald O d_Mod_sort_120 rfl rfl (by omega) (Nat.le_of_ble_eq_true rfl) ?_
              rw [l1]
              refine zi_iast O d_Mod_sort_121 rfl rfl (by omega) (Nat.le_of_ble_eq_true rfl) (by dsimp only [List.set]) ?_
              refine zi_aload_n O d_Mod_sort_122 rfl ?_
              refine zi_dup O d_Mod_sort_123 rfl ?_
              refine zi_get O f_Mod_74 d_Mod_sort_124 rfl rfl ?_
              refine zi_iconstN O 1 d_Mod_sort_127 (by decide) ?_
              first | refine zi_iaddN O d_Mod_sort_128 ?_ | refine zi_iadd O d_Mod_sort_128 ?_
              refine zi_put O f_Mod_74 d_Mod_sort_129 rfl (Nat.le_of_ble_eq_true rfl) (fun _ => rfl) (fun _ => rfl) (by dsimp only [List.set]) ?_
              refine zi_iincN (ls' := _ :: some _ :: _) O 1 d_Mod_sort_132 rfl (by decide) rfl (by decide) rfl ?_
              refine zi_goto O 7 d_Mod_sort_135 (by decide) ?_
              refine zi_no 2 (ls' := _ :: _ :: none :: _) rfl ?_
              refine zi_no 3 (ls' := _ :: _ :: _ :: none :: _) rfl ?_
              refine ih (k + 1, m + 1, upd PT t (nI (lab k))) ⟨by dsimp only; omega, fun j => if j < t then rw_ j else if j = t then lab k else rw_ (j - 1), ?_, srt_ins hS ht hst hgt⟩ (by dsimp only; omega)
              intro j hj
              dsimp only at hj ⊢
              unfold upd
              by_cases c1 : j < t
              · rw [if_neg (by omega), if_pos c1]; exact hlo j c1
              · by_cases c2 : j = t
                · rw [if_pos c2, if_neg c1, if_pos c2]
                · rw [if_neg c2, if_neg c1, if_neg c2]; exact hhi j (by omega) (by omega)
            refine zi_iload_n O d_Mod_sort_69 rfl ?_
            refine zi_if_le O 110 d_Mod_sort_70 (by decide) (fun c70 => ?_) (fun c70 => ?_)
            · refine fin (fun h0 => absurd c70 (nI_nle h0 (by omega)))
            · have ht0 : 0 < t := Nat.pos_of_ne_zero (fun z => c70 (by rw [z]; decide))
              have hb2 := hb (t - 1) (by omega)
              refine zi_aload_n O d_Mod_sort_73 rfl ?_
              refine zi_get O f_Mod_32 d_Mod_sort_74 rfl rfl ?_
              refine zi_iload_n O d_Mod_sort_77 rfl ?_
              refine zi_iconstN O 1 d_Mod_sort_78 (by decide) ?_
              first | refine zi_isubN O d_Mod_sort_79 (by omega) ?_ | refine zi_isub O d_Mod_sort_79 ?_
              refine zi_iald O d_Mod_sort_80 rfl rfl (by omega) (Nat.le_of_ble_eq_true rfl) ?_
              rw [hlo (t - 1) (by omega)]
              refine zi_aload_n O d_Mod_sort_81 rfl ?_
              refine zi_get O f_Mod_23 d_Mod_sort_82 rfl rfl ?_
              refine zi_iload_n O d_Mod_sort_85 rfl ?_
              refine zi_iald O d_Mod_sort_86 rfl rfl (by omega) (Nat.le_of_ble_eq_true rfl) ?_
              rw [l1]
              refine zi_icmp_leN O 110 d_Mod_sort_87 (by decide) (by omega) (by omega) (fun c87 => ?_) (fun c87 => ?_)
              · refine fin (fun _ => ?_)
                have := g2 (t - 1) (by omega)
                omega
              · refine zi_aload_n O d_Mod_sort_90 rfl ?_
                refine zi_get O f_Mod_32 d_Mod_sort_91 rfl rfl ?_
                refine zi_iload_n O d_Mod_sort_94 rfl ?_
                refine zi_aload_n O d_Mod_sort_95 rfl ?_
                refine zi_get O f_Mod_32 d_Mod_sort_96 rfl rfl ?_
                refine zi_iload_n O d_Mod_sort_99 rfl ?_
                refine zi_iconstN O 1 d_Mod_sort_100 (by decide) ?_
                first | refine zi_isubN O d_Mod_sort_101 (by omega) ?_ | refine zi_isub O d_Mod_sort_101 ?_
                refine zi_iald O d_Mod_sort_102 rfl rfl (by omega) (Nat.le_of_ble_eq_true rfl) ?_
                rw [hlo (t - 1) (by omega)]
                refine zi_iast O d_Mod_sort_103 rfl rfl (by omega) (Nat.le_of_ble_eq_true rfl) (by dsimp only [List.set]) ?_
                refine zi_iincD (ls' := _ :: _ :: _ :: some _ :: _) O d_Mod_sort_104 rfl (by decide) rfl (by decide) (by omega) rfl ?_
                refine zi_goto O 69 d_Mod_sort_107 (by decide) ?_
                refine ih3 (t - 1, upd PT t (nI (rw_ (t - 1)))) ⟨by dsimp only; omega, fun j hj => ?_, fun j h1 h2 => ?_, fun j h1 h2 => ?_⟩ (by dsimp only; omega)
                · dsimp only at hj ⊢
                  unfold upd
                  rw [if_neg (by omega)]; exact hlo j (by omega)
                · dsimp only at h1 h2 ⊢
                  unfold upd
                  by_cases c1 : j = t
                  · rw [if_pos c1, c1]
                  · rw [if_neg c1]; exact hhi j (by omega) h2
                · dsimp only at h1 h2
                  by_cases c1 : j = t - 1
                  · rw [c1]; exact c87
                  · exact hgt j (by omega) h2
        · rw [g1]
          refine zi_iload_n O d_Mod_sort_60 rfl ?_
          refine zi_if_ne O 132 d_Mod_sort_61 (by decide) (fun c61 => ?_) (fun c61 => ?_)
          · refine zi_iincN (ls' := _ :: some _ :: _) O 1 d_Mod_sort_132 rfl (by decide) rfl (by decide) rfl ?_
            refine zi_goto O 7 d_Mod_sort_135 (by decide) ?_
            refine zi_no 2 (ls' := _ :: _ :: none :: _) rfl ?_
            refine zi_no 3 (ls' := _ :: _ :: _ :: none :: _) rfl ?_
            exact ih (k + 1, m, R) ⟨by dsimp only; omega, rw_, hRw, srt_old hS g2⟩ (by dsimp only; omega)
          · exact absurd c61 (by decide)
      · omega
end
