/-! The model: badLabel -/
theorem cnt_zero {P : Nat → Prop} [DecidablePred P] : ∀ {N : Nat}, cnt P N = 0 ↔ ∀ t, t < N → ¬ P t
  | 0 => ⟨fun _ t ht => absurd ht (Nat.not_lt_zero t), fun _ => rfl⟩
  | N + 1 => by
    rw [cnt]
    have ih := cnt_zero (P := P) (N := N)
    constructor
    · intro h t ht
      by_cases c : P N
      · rw [if_pos c] at h; omega
      · rw [if_neg c] at h
        by_cases e : t = N
        · rw [e]; exact c
        · exact ih.mp (by omega) t (by omega)
    · intro h
      rw [if_neg (h N (by omega)), ih.mpr (fun t ht => h t (by omega))]
theorem cnt_one {P : Nat → Prop} [DecidablePred P] : ∀ {N : Nat}, cnt P N = 1 ↔ ∃ q, q < N ∧ P q ∧ ∀ t, t < N → P t → t = q
  | 0 => ⟨fun h => absurd h (by show ¬ (0 : Nat) = 1; decide), fun ⟨q, h, _⟩ => absurd h (Nat.not_lt_zero q)⟩
  | N + 1 => by
    rw [cnt]
    have ih := cnt_one (P := P) (N := N)
    have i0 := cnt_zero (P := P) (N := N)
    by_cases c : P N
    · rw [if_pos c]
      constructor
      · intro h
        have h0 := i0.mp (by omega)
        refine ⟨N, by omega, c, fun t ht hp => ?_⟩
        rcases Nat.lt_or_ge t N with z | z
        · exact absurd hp (h0 t z)
        · omega
      · rintro ⟨q, q1, q2, q3⟩
        have e := q3 N (by omega) c
        have := i0.mpr (fun t ht hp => by have := q3 t (by omega) hp; omega)
        omega
    · rw [if_neg c]
      constructor
      · intro h
        obtain ⟨q, q1, q2, q3⟩ := ih.mp (by omega)
        refine ⟨q, by omega, q2, fun t ht hp => ?_⟩
        rcases Nat.lt_or_ge t N with z | z
        · exact q3 t z hp
        · rw [show t = N by omega] at hp; exact absurd hp c
      · rintro ⟨q, q1, q2, q3⟩
        have e : q ≠ N := fun z => c (by rw [← z]; exact q2)
        have := ih.mpr ⟨q, by omega, q2, fun t ht => q3 t (by omega)⟩
        omega
theorem cnt_two {P : Nat → Prop} [DecidablePred P] : ∀ {N : Nat}, cnt P N = 2 ↔ ∃ q r, q < N ∧ r < N ∧ q ≠ r ∧ P q ∧ P r ∧ ∀ t, t < N → P t → t = q ∨ t = r
  | 0 => ⟨fun h => absurd h (by show ¬ (0 : Nat) = 2; decide), fun ⟨q, r, h, _⟩ => absurd h (Nat.not_lt_zero q)⟩
  | N + 1 => by
    rw [cnt]
    have ih := cnt_two (P := P) (N := N)
    have i1 := cnt_one (P := P) (N := N)
    by_cases c : P N
    · rw [if_pos c]
      constructor
      · intro h
        obtain ⟨q, q1, q2, q3⟩ := i1.mp (by omega)
        refine ⟨q, N, by omega, by omega, by omega, q2, c, fun t ht hp => ?_⟩
        rcases Nat.lt_or_ge t N with z | z
        · exact Or.inl (q3 t z hp)
        · exact Or.inr (by omega)
      · rintro ⟨q, r, q1, r1, hne, q2, r2, q3⟩
        have := i1.mpr (by
          rcases q3 N (by omega) c with e | e
          · refine ⟨r, by omega, r2, fun t ht hp => ?_⟩
            rcases q3 t (by omega) hp with z | z
            · omega
            · exact z
          · refine ⟨q, by omega, q2, fun t ht hp => ?_⟩
            rcases q3 t (by omega) hp with z | z
            · exact z
            · omega)
        omega
    · rw [if_neg c]
      constructor
      · intro h
        obtain ⟨q, r, q1, r1, hne, q2, r2, q3⟩ := ih.mp (by omega)
        refine ⟨q, r, by omega, by omega, hne, q2, r2, fun t ht hp => ?_⟩
        rcases Nat.lt_or_ge t N with z | z
        · exact q3 t z hp
        · rw [show t = N by omega] at hp; exact absurd hp c
      · rintro ⟨q, r, q1, r1, hne, q2, r2, q3⟩
        have e : q ≠ N := fun z => c (by rw [← z]; exact q2)
        have e2 : r ≠ N := fun z => c (by rw [← z]; exact r2)
        have := ih.mpr ⟨q, r, by omega, by omega, hne, q2, r2, fun t ht => q3 t (by omega)⟩
        omega
theorem c1_cnt {n m : Nat} {lab rw_ : Nat → Nat} (hs : Srt (4 * n) lab m rw_) : C1 n lab ↔ ∀ i, i < m → cnt (fun q => lab q = rw_ i) (4 * n) = 2 := by
  constructor
  · intro h i hi
    obtain ⟨q, q1, q2⟩ := hs.2.2.2 i hi
    obtain ⟨r, r1, r2, r3, r4⟩ := h q q1
    refine cnt_two.mpr ⟨q, r, q1, r1, fun z => r2 z.symm, q2.symm, by rw [r3, q2], fun t ht hp => r4 t ht (by rw [hp, q2])⟩
  · intro h q hq
    obtain ⟨i, i1, i2⟩ := hs.2.2.1 q hq
    obtain ⟨a, b, a1, b1, hne, a2, b2, ab⟩ := cnt_two.mp (h i i1)
    rcases ab q hq i2.symm with e | e
    · refine ⟨b, b1, by omega, by rw [b2, i2], fun t ht hl => ?_⟩
      rcases ab t ht (by rw [hl, i2]) with z | z
      · exact Or.inl (by omega)
      · exact Or.inr z
    · refine ⟨a, a1, by omega, by rw [a2, i2], fun t ht hl => ?_⟩
      rcases ab t ht (by rw [hl, i2]) with z | z
      · exact Or.inr z
      · exact Or.inl (by omega)
theorem plc_ge {lab : Nat → Nat} {S : Nat → Int32} {l o N : Nat} (hN : N ≤ 80) : ¬ plc lab S l o N < 0 ↔ ∃ q, q < N ∧ lab q = l ∧ zb (¬ gi S q) = nI o := by
  rcases plc_cases (lab := lab) (S := S) (l := l) (o := o) N with ⟨h1, h2⟩ | ⟨q, q1, q2, q3, q4⟩
  · rw [h1]
    exact ⟨fun z => absurd (by decide) z, fun ⟨q, a, b, c⟩ => absurd ⟨b, c⟩ (h2 q a)⟩
  · rw [q4]
    exact ⟨fun _ => ⟨q, q1, q2, q3⟩, fun _ => nI_pos (by omega)⟩
theorem zb_1 {q : Prop} [Decidable q] : zb q = nI 1 ↔ q := by
  by_cases c : q
  · rw [zb_t c]; exact ⟨fun _ => c, fun _ => rfl⟩
  · rw [zb_f c]; exact ⟨fun z => absurd z (by decide), fun z => absurd z c⟩
theorem zb_0 {q : Prop} [Decidable q] : zb q = nI 0 ↔ ¬ q := by
  by_cases c : q
  · rw [zb_t c]; exact ⟨fun z => absurd z (by decide), fun z => absurd c z⟩
  · rw [zb_f c]; exact ⟨fun _ => c, fun _ => rfl⟩
theorem c2_plc {n m : Nat} {lab rw_ : Nat → Nat} {S : Nat → Int32} (hn : n ≤ 20) (hs : Srt (4 * n) lab m rw_) (h1 : C1 n lab) : C2 n lab S ↔ ∀ i, i < m → ¬ plc lab S (rw_ i) 1 (4 * n) < 0 ∧ ¬ plc lab S (rw_ i) 0 (4 * n) < 0 := by
  constructor
  · intro h i hi
    obtain ⟨q, q1, q2⟩ := hs.2.2.2 i hi
    obtain ⟨r, r1, r2, r3, r4⟩ := h1 q q1
    have hg := h q r q1 r1 (fun z => r2 z.symm) r3.symm
    rw [plc_ge (by omega), plc_ge (by omega)]
    by_cases c : gi S q
    · have c2 : ¬ gi S r := fun z => hg ⟨fun _ => z, fun _ => c⟩
      exact ⟨⟨r, r1, by rw [r3, q2], zb_1.mpr c2⟩, ⟨q, q1, q2.symm, zb_0.mpr (fun z => z c)⟩⟩
    · have c2 : gi S r := Classical.byContradiction (fun z => hg ⟨fun w => absurd w c, fun w => absurd w z⟩)
      exact ⟨⟨q, q1, q2.symm, zb_1.mpr c⟩, ⟨r, r1, by rw [r3, q2], zb_0.mpr (fun z => z c2)⟩⟩
  · intro h q r hq hr hne hl hg
    obtain ⟨i, i1, i2⟩ := hs.2.2.1 q hq
    obtain ⟨a1, a2⟩ := h i i1
    rw [plc_ge (by omega)] at a1 a2
    obtain ⟨x, x1, x2, x3⟩ := a1
    obtain ⟨y, y1, y2, y3⟩ := a2
    have x4 := zb_1.mp x3
    have y4 : gi S y := Classical.byContradiction (fun z => (zb_0.mp y3) z)
    obtain ⟨s, s1, s2, s3, s4⟩ := h1 q hq
    have er : r = s := by
      rcases s4 r hr hl.symm with z | z
      · exact absurd z.symm hne
      · exact z
    subst er
    have hx := s4 x x1 (by rw [x2, i2])
    have hy := s4 y y1 (by rw [y2, i2])
    rcases hx with hx | hx <;> rcases hy with hy | hy
    · rw [hx] at x4; rw [hy] at y4; exact x4 y4
    · rw [hx] at x4; rw [hy] at y4; exact x4 (hg.mpr y4)
    · rw [hx] at x4; rw [hy] at y4; exact x4 (hg.mp y4)
    · rw [hx] at x4; rw [hy] at y4; exact x4 y4
theorem lst_sub (n : Nat) (hn : n ≤ 1000) : nI n - nI 1 = lst n := by
  unfold lst
  split
  · rename_i h; rw [h]; decide
  · exact pk_sub (by omega)
theorem lst_dec (i : Nat) : nI i + (-1) = lst i := by
  unfold lst
  split
  · rename_i h; rw [h]; decide
  · rw [show nI i = nI (i - 1) + nI 1 by rw [nI_add]; congr 1; omega, Int32.add_assoc]
    rw [show nI 1 + -1 = (0 : Int32) by decide, Int32.add_zero]
section
variable {put n oN labs closed faces sides : Nat} {wrong ci oC : Int32} {pS pL S L oS oL row fresh piece comp fof side free arnd : Nat → Int32}
set_option maxHeartbeats 1000000 in
theorem m_Mod_badLabel_0 {lab : Nat → Nat} (hR : RowOK n L lab) : zMet y_Mod_badLabel b_Mod_badLabel 5 (some .int) ⟨2, 0, 0, 50⟩ [.ref 0, .int (nI 0)] (mh put wrong pS pL n ci oN oC S L oS oL labs row fresh piece closed faces comp fof sides side free arnd)
    (fun r h' => ∃ (v : Int32) (m : Nat) (row' : Nat → Int32), r = some (.int v) ∧ h' = (mh put wrong pS pL n ci oN oC S L oS oL m row' fresh piece closed faces comp fof sides side free arnd) ∧ ((v < 0 ∧ C1 n lab) ∨ (¬ v < 0 ∧ ¬ C1 n lab))) := by
  have hn := hR.1
  refine zMet_of (plainFor_of_name (by decide +kernel)) rfl (Nat.le_of_ble_eq_true rfl) (fun z1 z2 z3 z4 z5 z6 z7 z8 z9 z10 z11 z12 z13 z14 O hin => ?_)
  refine zi_ls (ls' := [some (.ref 0), some (.int (nI 0)), none, none, none]) rfl ?_
  refine zi_aload_n O d_Mod_badLabel_0 rfl ?_
  refine zi_selfV O c_Mod_80 k_Mod_sort (m_Mod_sort lab hR) d_Mod_badLabel_1 ⟨(Nat.le_of_ble_eq_true rfl), (Nat.le_of_ble_eq_true rfl)⟩ ⟨(Nat.le_of_ble_eq_true rfl), (Nat.le_of_ble_eq_true rfl)⟩ rfl rfl (Nat.le_of_ble_eq_true rfl) rfl rfl rfl (Nat.le_of_ble_eq_true rfl) rfl (fun r h' hq hl => ?_)
  obtain ⟨rfl, m, row', rw_, rfl, hrow, hs⟩ := hq
  have hm := hs.1
  have hb : ∀ i, i < m → rw_ i ≤ 9999 := fun i hi => by
    obtain ⟨q, q1, q2⟩ := hs.2.2.2 i hi
    have := hR.2 q (by omega)
    omega
  refine zi_st (st' := []) rfl ?_
  refine zi_iconstN O 0 d_Mod_badLabel_4 (by decide) ?_
  refine zi_istore_n (ls' := _ :: _ :: some _ :: _) O d_Mod_badLabel_5 rfl (by decide) rfl ?_
  refine zi_loop (σ := Nat) (fun i => [some (.ref 0), some (.int (nI 0)), some (.int (nI i)), none, none]) (fun _ => (mh put wrong pS pL n ci oN oC S L oS oL m row' fresh piece closed faces comp fof sides side free arnd)) (fun i => i ≤ m ∧ ∀ j, j < i → cnt (fun q => lab q = rw_ j) (4 * n) = 2) (fun i => m - i) 0 rfl rfl ⟨Nat.zero_le _, fun j hj => absurd hj (Nat.not_lt_zero j)⟩ ?_
  intro i hi ih
  obtain ⟨hi, hc⟩ := hi
  refine zi_iload_n O d_Mod_badLabel_6 rfl ?_
  refine zi_aload_n O d_Mod_badLabel_7 rfl ?_
  refine zi_get O f_Mod_74 d_Mod_badLabel_8 rfl rfl ?_
  refine zi_icmp_geN O 130 d_Mod_badLabel_11 (by decide) (by omega) (by omega) (fun c11 => ?_) (fun c11 => ?_)
  · refine zi_iconst (v := -1) O d_Mod_badLabel_130 (by decide) ?_
    refine zi_iret O d_Mod_badLabel_131 (Nat.le_of_ble_eq_true rfl) (Nat.le_of_ble_eq_true rfl) (Nat.le_of_ble_eq_true rfl) ?_
    exact ⟨-1, m, row', rfl, rfl, Or.inl ⟨by decide, (c1_cnt hs).mpr (fun j hj => hc j (by omega))⟩⟩
  · have hbi := hb i c11
    refine zi_iconstN O 0 d_Mod_badLabel_14 (by decide) ?_
    refine zi_istore_n (ls' := _ :: _ :: _ :: some _ :: _) O d_Mod_badLabel_15 rfl (by decide) rfl ?_
    refine zi_iconstN O 0 d_Mod_badLabel_16 (by decide) ?_
    refine zi_istore (ls' := _ :: _ :: _ :: _ :: some _ :: _) O d_Mod_badLabel_17 rfl (by decide) rfl ?_
    refine zi_for (fun q => [some (.ref 0), some (.int (nI 0)), some (.int (nI i)), some (.int (nI (cnt (fun q => lab q = rw_ i) q))), some (.int (nI q))]) (fun _ => (mh put wrong pS pL n ci oN oC S L oS oL m row' fresh piece closed faces comp fof sides side free arnd)) 0 (4 * n) (by omega) rfl rfl (fun q _ hq ih2 => ?_) ?_
    · obtain ⟨l1, l2, l3⟩ := hR.2 q hq
      rw [cnt] at ih2
      refine zi_iload O d_Mod_badLabel_19 rfl ?_
      refine zi_iconstN O 4 d_Mod_badLabel_21 (by decide) ?_
      refine zi_aload_n O d_Mod_badLabel_22 rfl ?_
      refine zi_get O f_Mod_59 d_Mod_badLabel_23 rfl rfl ?_
      first | refine zi_imulN O d_Mod_badLabel_26 ?_ | refine zi_imul O d_Mod_badLabel_26 ?_
      refine zi_icmp_geN O 60 d_Mod_badLabel_27 (by decide) (by omega) (by omega) (fun c27 => ?_) (fun c27 => ?_)
      · omega
      · refine zi_iload_n O d_Mod_badLabel_30 rfl ?_
        refine zi_aload_n O d_Mod_badLabel_31 rfl ?_
        refine zi_get O f_Mod_23 d_Mod_badLabel_32 rfl rfl ?_
        refine zi_iload O d_Mod_badLabel_35 rfl ?_
        refine zi_iald O d_Mod_badLabel_37 rfl rfl (by omega) (Nat.le_of_ble_eq_true rfl) ?_
        rw [l1]
        refine zi_aload_n O d_Mod_badLabel_38 rfl ?_
        refine zi_get O f_Mod_32 d_Mod_badLabel_39 rfl rfl ?_
        refine zi_iload_n O d_Mod_badLabel_42 rfl ?_
        refine zi_iald O d_Mod_badLabel_43 rfl rfl (by omega) (Nat.le_of_ble_eq_true rfl) ?_
        rw [hrow i c11]
        refine zi_icmp_neN O 51 d_Mod_badLabel_44 (by decide) (by omega) (by omega) (fun c44 => ?_) (fun c44 => ?_)
        · rw [if_neg c44] at ih2
          refine zi_iconstN O 0 d_Mod_badLabel_51 (by decide) ?_
          first | refine zi_iaddN O d_Mod_badLabel_52 ?_ | refine zi_iadd O d_Mod_badLabel_52 ?_
          refine zi_istore_n (ls' := _ :: _ :: _ :: some _ :: _) O d_Mod_badLabel_53 rfl (by decide) rfl ?_
          refine zi_iincN (ls' := _ :: _ :: _ :: _ :: some _ :: _) O 1 d_Mod_badLabel_54 rfl (by decide) rfl (by decide) rfl ?_
          refine zi_goto O 19 d_Mod_badLabel_57 (by decide) ?_
          exact ih2
        · rw [if_pos c44] at ih2
          refine zi_iconstN O 1 d_Mod_badLabel_47 (by decide) ?_
          refine zi_goto O 52 d_Mod_badLabel_48 (by decide) ?_
          first | refine zi_iaddN O d_Mod_badLabel_52 ?_ | refine zi_iadd O d_Mod_badLabel_52 ?_
          refine zi_istore_n (ls' := _ :: _ :: _ :: some _ :: _) O d_Mod_badLabel_53 rfl (by decide) rfl ?_
          refine zi_iincN (ls' := _ :: _ :: _ :: _ :: some _ :: _) O 1 d_Mod_badLabel_54 rfl (by decide) rfl (by decide) rfl ?_
          refine zi_goto O 19 d_Mod_badLabel_57 (by decide) ?_
          exact ih2
    · have hcl := cnt_le (fun q => lab q = rw_ i) (4 * n)
      refine zi_iload O d_Mod_badLabel_19 rfl ?_
      refine zi_iconstN O 4 d_Mod_badLabel_21 (by decide) ?_
      refine zi_aload_n O d_Mod_badLabel_22 rfl ?_
      refine zi_get O f_Mod_59 d_Mod_badLabel_23 rfl rfl ?_
      first | refine zi_imulN O d_Mod_badLabel_26 ?_ | refine zi_imul O d_Mod_badLabel_26 ?_
      refine zi_icmp_geN O 60 d_Mod_badLabel_27 (by decide) (by omega) (by omega) (fun c27 => ?_) (fun c27 => ?_)
      · refine zi_iload_n O d_Mod_badLabel_60 rfl ?_
        refine zi_if_eq O 100 d_Mod_badLabel_61 (by decide) (fun c61 => ?_) (fun c61 => ?_)
        · refine zi_iload_n O d_Mod_badLabel_100 rfl ?_
          refine zi_iconstN O 2 d_Mod_badLabel_101 (by decide) ?_
          refine zi_icmp_neN O 109 d_Mod_badLabel_102 (by decide) (by omega) (by omega) (fun c102 => ?_) (fun c102 => ?_)
          · refine zi_iconstN O 0 d_Mod_badLabel_109 (by decide) ?_
            refine zi_istore (ls' := _ :: _ :: _ :: _ :: some _ :: _) O d_Mod_badLabel_110 rfl (by decide) rfl ?_
            refine zi_iload O d_Mod_badLabel_112 rfl ?_
            refine zi_if_ne O 124 d_Mod_badLabel_114 (by decide) (fun c114 => ?_) (fun c114 => ?_)
            · exact absurd rfl c114
            · refine zi_aload_n O d_Mod_badLabel_117 rfl ?_
              refine zi_get O f_Mod_32 d_Mod_badLabel_118 rfl rfl ?_
              refine zi_iload_n O d_Mod_badLabel_121 rfl ?_
              refine zi_iald O d_Mod_badLabel_122 rfl rfl (by omega) (Nat.le_of_ble_eq_true rfl) ?_
              rw [hrow i c11]
              refine zi_iret O d_Mod_badLabel_123 (Nat.le_of_ble_eq_true rfl) (Nat.le_of_ble_eq_true rfl) (Nat.le_of_ble_eq_true rfl) ?_
              exact ⟨_, m, row', rfl, rfl, Or.inr ⟨nI_pos (by omega), fun z => c102 ((c1_cnt hs).mp z i c11)⟩⟩
          · refine zi_iconstN O 1 d_Mod_badLabel_105 (by decide) ?_
            refine zi_goto O 110 d_Mod_badLabel_106 (by decide) ?_
            refine zi_istore (ls' := _ :: _ :: _ :: _ :: some _ :: _) O d_Mod_badLabel_110 rfl (by decide) rfl ?_
            refine zi_iload O d_Mod_badLabel_112 rfl ?_
            refine zi_if_ne O 124 d_Mod_badLabel_114 (by decide) (fun c114 => ?_) (fun c114 => ?_)
            · refine zi_iincN (ls' := _ :: _ :: some _ :: _) O 1 d_Mod_badLabel_124 rfl (by decide) rfl (by decide) rfl ?_
              refine zi_goto O 6 d_Mod_badLabel_127 (by decide) ?_
              refine zi_no 3 (ls' := _ :: _ :: _ :: none :: _) rfl ?_
              refine zi_no 4 (ls' := _ :: _ :: _ :: _ :: none :: _) rfl ?_
              refine ih (i + 1) ⟨by omega, fun j hj => ?_⟩ (by omega)
              by_cases e : j = i
              · rw [e]; exact c102
              · exact hc j (by omega)
            · exact absurd c114 (by decide)
        · exact absurd rfl c61
      · omega
set_option maxHeartbeats 1000000 in
theorem m_Mod_badLabel_1 {lab : Nat → Nat} (hR : RowOK n L lab) (hG : Sg n S) (h1 : C1 n lab) : zMet y_Mod_badLabel b_Mod_badLabel 5 (some .int) ⟨2, 0, 0, 50⟩ [.ref 0, .int (nI 1)] (mh put wrong pS pL n ci oN oC S L oS oL labs row fresh piece closed faces comp fof sides side free arnd)
    (fun r h' => ∃ (v : Int32) (m : Nat) (row' : Nat → Int32), r = some (.int v) ∧ h' = (mh put wrong pS pL n ci oN oC S L oS oL m row' fresh piece closed faces comp fof sides side free arnd) ∧ ((v < 0 ∧ C2 n lab S) ∨ (¬ v < 0 ∧ ¬ C2 n lab S))) := by
  have hn := hR.1
  refine zMet_of (plainFor_of_name (by decide +kernel)) rfl (Nat.le_of_ble_eq_true rfl) (fun z1 z2 z3 z4 z5 z6 z7 z8 z9 z10 z11 z12 z13 z14 O hin => ?_)
  refine zi_ls (ls' := [some (.ref 0), some (.int (nI 1)), none, none, none]) rfl ?_
  refine zi_aload_n O d_Mod_badLabel_0 rfl ?_
  refine zi_selfV O c_Mod_80 k_Mod_sort (m_Mod_sort lab hR) d_Mod_badLabel_1 ⟨(Nat.le_of_ble_eq_true rfl), (Nat.le_of_ble_eq_true rfl)⟩ ⟨(Nat.le_of_ble_eq_true rfl), (Nat.le_of_ble_eq_true rfl)⟩ rfl rfl (Nat.le_of_ble_eq_true rfl) rfl rfl rfl (Nat.le_of_ble_eq_true rfl) rfl (fun r h' hq hl => ?_)
  obtain ⟨rfl, m, row', rw_, rfl, hrow, hs⟩ := hq
  have hm := hs.1
  have hb : ∀ i, i < m → rw_ i ≤ 9999 := fun i hi => by
    obtain ⟨q, q1, q2⟩ := hs.2.2.2 i hi
    have := hR.2 q (by omega)
    omega
  refine zi_st (st' := []) rfl ?_
  refine zi_iconstN O 0 d_Mod_badLabel_4 (by decide) ?_
  refine zi_istore_n (ls' := _ :: _ :: some _ :: _) O d_Mod_badLabel_5 rfl (by decide) rfl ?_
  refine zi_loop (σ := Nat) (fun i => [some (.ref 0), some (.int (nI 1)), some (.int (nI i)), none, none]) (fun _ => (mh put wrong pS pL n ci oN oC S L oS oL m row' fresh piece closed faces comp fof sides side free arnd)) (fun i => i ≤ m ∧ ∀ j, j < i → ¬ plc lab S (rw_ j) 1 (4 * n) < 0 ∧ ¬ plc lab S (rw_ j) 0 (4 * n) < 0) (fun i => m - i) 0 rfl rfl ⟨Nat.zero_le _, fun j hj => absurd hj (Nat.not_lt_zero j)⟩ ?_
  intro i hi ih
  obtain ⟨hi, hc⟩ := hi
  refine zi_iload_n O d_Mod_badLabel_6 rfl ?_
  refine zi_aload_n O d_Mod_badLabel_7 rfl ?_
  refine zi_get O f_Mod_74 d_Mod_badLabel_8 rfl rfl ?_
  refine zi_icmp_geN O 130 d_Mod_badLabel_11 (by decide) (by omega) (by omega) (fun c11 => ?_) (fun c11 => ?_)
  · refine zi_iconst (v := -1) O d_Mod_badLabel_130 (by decide) ?_
    refine zi_iret O d_Mod_badLabel_131 (Nat.le_of_ble_eq_true rfl) (Nat.le_of_ble_eq_true rfl) (Nat.le_of_ble_eq_true rfl) ?_
    exact ⟨-1, m, row', rfl, rfl, Or.inl ⟨by decide, (c2_plc hn hs h1).mpr (fun j hj => hc j (by omega))⟩⟩
  · have hbi := hb i c11
    refine zi_iconstN O 0 d_Mod_badLabel_14 (by decide) ?_
    refine zi_istore_n (ls' := _ :: _ :: _ :: some _ :: _) O d_Mod_badLabel_15 rfl (by decide) rfl ?_
    refine zi_iconstN O 0 d_Mod_badLabel_16 (by decide) ?_
    refine zi_istore (ls' := _ :: _ :: _ :: _ :: some _ :: _) O d_Mod_badLabel_17 rfl (by decide) rfl ?_
    refine zi_for (fun q => [some (.ref 0), some (.int (nI 1)), some (.int (nI i)), some (.int (nI (cnt (fun q => lab q = rw_ i) q))), some (.int (nI q))]) (fun _ => (mh put wrong pS pL n ci oN oC S L oS oL m row' fresh piece closed faces comp fof sides side free arnd)) 0 (4 * n) (by omega) rfl rfl (fun q _ hq ih2 => ?_) ?_
    · obtain ⟨l1, l2, l3⟩ := hR.2 q hq
      rw [cnt] at ih2
      refine zi_iload O d_Mod_badLabel_19 rfl ?_
      refine zi_iconstN O 4 d_Mod_badLabel_21 (by decide) ?_
      refine zi_aload_n O d_Mod_badLabel_22 rfl ?_
      refine zi_get O f_Mod_59 d_Mod_badLabel_23 rfl rfl ?_
      first | refine zi_imulN O d_Mod_badLabel_26 ?_ | refine zi_imul O d_Mod_badLabel_26 ?_
      refine zi_icmp_geN O 60 d_Mod_badLabel_27 (by decide) (by omega) (by omega) (fun c27 => ?_) (fun c27 => ?_)
      · omega
      · refine zi_iload_n O d_Mod_badLabel_30 rfl ?_
        refine zi_aload_n O d_Mod_badLabel_31 rfl ?_
        refine zi_get O f_Mod_23 d_Mod_badLabel_32 rfl rfl ?_
        refine zi_iload O d_Mod_badLabel_35 rfl ?_
        refine zi_iald O d_Mod_badLabel_37 rfl rfl (by omega) (Nat.le_of_ble_eq_true rfl) ?_
        rw [l1]
        refine zi_aload_n O d_Mod_badLabel_38 rfl ?_
        refine zi_get O f_Mod_32 d_Mod_badLabel_39 rfl rfl ?_
        refine zi_iload_n O d_Mod_badLabel_42 rfl ?_
        refine zi_iald O d_Mod_badLabel_43 rfl rfl (by omega) (Nat.le_of_ble_eq_true rfl) ?_
        rw [hrow i c11]
        refine zi_icmp_neN O 51 d_Mod_badLabel_44 (by decide) (by omega) (by omega) (fun c44 => ?_) (fun c44 => ?_)
        · rw [if_neg c44] at ih2
          refine zi_iconstN O 0 d_Mod_badLabel_51 (by decide) ?_
          first | refine zi_iaddN O d_Mod_badLabel_52 ?_ | refine zi_iadd O d_Mod_badLabel_52 ?_
          refine zi_istore_n (ls' := _ :: _ :: _ :: some _ :: _) O d_Mod_badLabel_53 rfl (by decide) rfl ?_
          refine zi_iincN (ls' := _ :: _ :: _ :: _ :: some _ :: _) O 1 d_Mod_badLabel_54 rfl (by decide) rfl (by decide) rfl ?_
          refine zi_goto O 19 d_Mod_badLabel_57 (by decide) ?_
          exact ih2
        · rw [if_pos c44] at ih2
          refine zi_iconstN O 1 d_Mod_badLabel_47 (by decide) ?_
          refine zi_goto O 52 d_Mod_badLabel_48 (by decide) ?_
          first | refine zi_iaddN O d_Mod_badLabel_52 ?_ | refine zi_iadd O d_Mod_badLabel_52 ?_
          refine zi_istore_n (ls' := _ :: _ :: _ :: some _ :: _) O d_Mod_badLabel_53 rfl (by decide) rfl ?_
          refine zi_iincN (ls' := _ :: _ :: _ :: _ :: some _ :: _) O 1 d_Mod_badLabel_54 rfl (by decide) rfl (by decide) rfl ?_
          refine zi_goto O 19 d_Mod_badLabel_57 (by decide) ?_
          exact ih2
    · have bad : ∀ (w3 w4 : Value), (¬ (¬ plc lab S (rw_ i) 1 (4 * n) < 0 ∧ ¬ plc lab S (rw_ i) 0 (4 * n) < 0)) → zG z1 z2 z3 z4 z5 z6 z7 z8 z9 z10 z11 z12 z13 z14 15 5 (fun r h' => ∃ (v : Int32) (m : Nat) (row' : Nat → Int32), r = some (.int v) ∧ h' = (mh put wrong pS pL n ci oN oC S L oS oL m row' fresh piece closed faces comp fof sides side free arnd) ∧ ((v < 0 ∧ C2 n lab S) ∨ (¬ v < 0 ∧ ¬ C2 n lab S))) 0 0 0 0 96 [some (.ref 0), some (.int (nI 1)), some (.int (nI i)), some (.int (nI (cnt (fun q => lab q = rw_ i) (4 * n)))), some (.int (nI (4 * n)))] [] (mh put wrong pS pL n ci oN oC S L oS oL m row' fresh piece closed faces comp fof sides side free arnd) := by
        intro w3 w4 hbad
        refine zi_iconstN O 0 d_Mod_badLabel_96 (by decide) ?_
        refine zi_goto O 110 d_Mod_badLabel_97 (by decide) ?_
        refine zi_istore (ls' := _ :: _ :: _ :: _ :: some _ :: _) O d_Mod_badLabel_110 rfl (by decide) rfl ?_
        refine zi_iload O d_Mod_badLabel_112 rfl ?_
        refine zi_if_ne O 124 d_Mod_badLabel_114 (by decide) (fun c114 => ?_) (fun c114 => ?_)
        · exact absurd rfl c114
        · refine zi_aload_n O d_Mod_badLabel_117 rfl ?_
          refine zi_get O f_Mod_32 d_Mod_badLabel_118 rfl rfl ?_
          refine zi_iload_n O d_Mod_badLabel_121 rfl ?_
          refine zi_iald O d_Mod_badLabel_122 rfl rfl (by omega) (Nat.le_of_ble_eq_true rfl) ?_
          rw [hrow i c11]
          refine zi_iret O d_Mod_badLabel_123 (Nat.le_of_ble_eq_true rfl) (Nat.le_of_ble_eq_true rfl) (Nat.le_of_ble_eq_true rfl) ?_
          exact ⟨_, m, row', rfl, rfl, Or.inr ⟨nI_pos (by omega), fun z => hbad ((c2_plc hn hs h1).mp z i c11)⟩⟩
      refine zi_iload O d_Mod_badLabel_19 rfl ?_
      refine zi_iconstN O 4 d_Mod_badLabel_21 (by decide) ?_
      refine zi_aload_n O d_Mod_badLabel_22 rfl ?_
      refine zi_get O f_Mod_59 d_Mod_badLabel_23 rfl rfl ?_
      first | refine zi_imulN O d_Mod_badLabel_26 ?_ | refine zi_imul O d_Mod_badLabel_26 ?_
      refine zi_icmp_geN O 60 d_Mod_badLabel_27 (by decide) (by omega) (by omega) (fun c27 => ?_) (fun c27 => ?_)
      · refine zi_iload_n O d_Mod_badLabel_60 rfl ?_
        refine zi_if_eq O 100 d_Mod_badLabel_61 (by decide) (fun c61 => ?_) (fun c61 => ?_)
        · exact absurd c61 (by decide)
        · refine zi_aload_n O d_Mod_badLabel_64 rfl ?_
          refine zi_aload_n O d_Mod_badLabel_65 rfl ?_
          refine zi_get O f_Mod_32 d_Mod_badLabel_66 rfl rfl ?_
          refine zi_iload_n O d_Mod_badLabel_69 rfl ?_
          refine zi_iald O d_Mod_badLabel_70 rfl rfl (by omega) (Nat.le_of_ble_eq_true rfl) ?_
          rw [hrow i c11]
          refine zi_iconstN O 1 d_Mod_badLabel_71 (by decide) ?_
          refine zi_selfP O c_Mod_66 k_Mod_placeOf (m_Mod_placeOf lab hR hG (rw_ i) 1 (by omega)) d_Mod_badLabel_72 ⟨(Nat.le_of_ble_eq_true rfl), (Nat.le_of_ble_eq_true rfl)⟩ ⟨(Nat.le_of_ble_eq_true rfl), (Nat.le_of_ble_eq_true rfl)⟩ rfl rfl (Nat.le_of_ble_eq_true rfl) rfl rfl rfl (Nat.le_of_ble_eq_true rfl) rfl ?_
          refine zi_if_lt O 96 d_Mod_badLabel_75 (by decide) (fun c75 => ?_) (fun c75 => ?_)
          · exact bad (.int 0) (.int 0) (fun z => z.1 c75)
          · refine zi_aload_n O d_Mod_badLabel_78 rfl ?_
            refine zi_aload_n O d_Mod_badLabel_79 rfl ?_
            refine zi_get O f_Mod_32 d_Mod_badLabel_80 rfl rfl ?_
            refine zi_iload_n O d_Mod_badLabel_83 rfl ?_
            refine zi_iald O d_Mod_badLabel_84 rfl rfl (by omega) (Nat.le_of_ble_eq_true rfl) ?_
            rw [hrow i c11]
            refine zi_iconstN O 0 d_Mod_badLabel_85 (by decide) ?_
            refine zi_selfP O c_Mod_66 k_Mod_placeOf (m_Mod_placeOf lab hR hG (rw_ i) 0 (by omega)) d_Mod_badLabel_86 ⟨(Nat.le_of_ble_eq_true rfl), (Nat.le_of_ble_eq_true rfl)⟩ ⟨(Nat.le_of_ble_eq_true rfl), (Nat.le_of_ble_eq_true rfl)⟩ rfl rfl (Nat.le_of_ble_eq_true rfl) rfl rfl rfl (Nat.le_of_ble_eq_true rfl) rfl ?_
            refine zi_if_lt O 96 d_Mod_badLabel_89 (by decide) (fun c89 => ?_) (fun c89 => ?_)
            · exact bad (.int 0) (.int 0) (fun z => z.2 c89)
            · refine zi_iconstN O 1 d_Mod_badLabel_92 (by decide) ?_
              refine zi_goto O 110 d_Mod_badLabel_93 (by decide) ?_
              refine zi_istore (ls' := _ :: _ :: _ :: _ :: some _ :: _) O d_Mod_badLabel_110 rfl (by decide) rfl ?_
              refine zi_iload O d_Mod_badLabel_112 rfl ?_
              refine zi_if_ne O 124 d_Mod_badLabel_114 (by decide) (fun c114 => ?_) (fun c114 => ?_)
              · refine zi_iincN (ls' := _ :: _ :: some _ :: _) O 1 d_Mod_badLabel_124 rfl (by decide) rfl (by decide) rfl ?_
                refine zi_goto O 6 d_Mod_badLabel_127 (by decide) ?_
                refine zi_no 3 (ls' := _ :: _ :: _ :: none :: _) rfl ?_
                refine zi_no 4 (ls' := _ :: _ :: _ :: _ :: none :: _) rfl ?_
                refine ih (i + 1) ⟨by omega, fun j hj => ?_⟩ (by omega)
                by_cases e : j = i
                · rw [e]; exact ⟨c75, c89⟩
                · exact hc j (by omega)
              · exact absurd c114 (by decide)
      · omega
set_option maxHeartbeats 1000000 in
theorem m_Mod_badPiece {lab el fr to_ at_ oc : Nat → Nat} (hR : RowOK n L lab) (hG : Sg n S) (h : Ed n lab S el fr to_ at_) (hP : PcE (2 * n) n fr to_ oc) : zMet y_Mod_badPiece b_Mod_badPiece 5 (some .int) ⟨4, 0, 0, 110⟩ [.ref 0] (mh put wrong pS pL n ci oN oC S L oS oL labs row fresh piece closed faces comp fof sides side free arnd)
    (fun r h' => ∃ (v : Int32) (row' fof' piece' : Nat → Int32), r = some (.int v) ∧ h' = (mh put wrong pS pL n ci oN oC S L oS oL (2 * n) row' fresh piece' closed ((FF (nxD fr to_ at_) (4 * n) (4 * n)).2) comp fof' sides side free arnd) ∧ ((v < 0 ∧ ∀ k, k < n → oc k = k → cnt (fbg n fr to_ at_ oc k) (4 * n) = cnt (fun c => oc c = k) n + 2) ∨ (¬ v < 0 ∧ ∃ k, k < n ∧ oc k = k ∧ cnt (fbg n fr to_ at_ oc k) (4 * n) ≠ cnt (fun c => oc c = k) n + 2))) := by
  have hn := hR.1
  refine zMet_of (plainFor_of_name (by decide +kernel)) rfl (Nat.le_of_ble_eq_true rfl) (fun z1 z2 z3 z4 z5 z6 z7 z8 z9 z10 z11 z12 z13 z14 O hin => ?_)
  refine zi_ls (ls' := [some (.ref 0), none, none, none, none]) rfl ?_
  refine zi_aload_n O d_Mod_badPiece_0 rfl ?_
  refine zi_selfV O c_Mod_86 k_Mod_hang (m_Mod_hangE hR h hP) d_Mod_badPiece_1 ⟨(Nat.le_of_ble_eq_true rfl), (Nat.le_of_ble_eq_true rfl)⟩ ⟨(Nat.le_of_ble_eq_true rfl), (Nat.le_of_ble_eq_true rfl)⟩ rfl rfl (Nat.le_of_ble_eq_true rfl) rfl rfl rfl (Nat.le_of_ble_eq_true rfl) rfl (fun r h' hq hl => ?_)
  obtain ⟨rfl, piece', rfl, hpc⟩ := hq
  refine zi_st (st' := []) rfl ?_
  refine zi_aload_n O d_Mod_badPiece_4 rfl ?_
  refine zi_selfV O c_Mod_110 k_Mod_findFaces (m_Mod_findFaces hR hG h) d_Mod_badPiece_5 ⟨(Nat.le_of_ble_eq_true rfl), (Nat.le_of_ble_eq_true rfl)⟩ ⟨(Nat.le_of_ble_eq_true rfl), (Nat.le_of_ble_eq_true rfl)⟩ rfl rfl (Nat.le_of_ble_eq_true rfl) rfl rfl rfl (Nat.le_of_ble_eq_true rfl) rfl (fun r h' hq hl => ?_)
  obtain ⟨rfl, row', fof', rfl, hrow, hfof⟩ := hq
  refine zi_st (st' := []) rfl ?_
  refine zi_iconst (v := -1) O d_Mod_badPiece_8 (by decide) ?_
  refine zi_istore_n (ls' := _ :: some _ :: _) O d_Mod_badPiece_9 rfl (by decide) rfl ?_
  refine zi_aload_n O d_Mod_badPiece_10 rfl ?_
  refine zi_get O f_Mod_59 d_Mod_badPiece_11 rfl rfl ?_
  refine zi_iconstN O 1 d_Mod_badPiece_14 (by decide) ?_
  refine zi_isub O d_Mod_badPiece_15 (zi_top (lst_sub n (by omega)) ?_)
  refine zi_istore_n (ls' := _ :: _ :: some _ :: _) O d_Mod_badPiece_16 rfl (by decide) rfl ?_
  refine zi_loop (σ := Nat × Int32) (fun x => [some (.ref 0), some (.int x.2), some (.int (lst x.1)), none, none]) (fun _ => (mh put wrong pS pL n ci oN oC S L oS oL (2 * n) row' fresh piece' closed ((FF (nxD fr to_ at_) (4 * n) (4 * n)).2) comp fof' sides side free arnd)) (fun x => x.1 ≤ n ∧ ((x.2 < 0 ∧ ∀ k, x.1 ≤ k → k < n → oc k = k → cnt (fbg n fr to_ at_ oc k) (4 * n) = cnt (fun c => oc c = k) n + 2) ∨ (¬ x.2 < 0 ∧ ∃ k, k < n ∧ oc k = k ∧ cnt (fbg n fr to_ at_ oc k) (4 * n) ≠ cnt (fun c => oc c = k) n + 2))) (fun x => x.1) (n, -1) rfl rfl ⟨Nat.le_refl _, Or.inl ⟨by show (-1 : Int32) < 0; decide, fun k h1 h2 => absurd h1 (by dsimp only; omega)⟩⟩ ?_
  rintro ⟨i, v⟩ ⟨hi, hv⟩ ih
  dsimp only at hi hv ih ⊢
  refine zi_iload_n O d_Mod_badPiece_17 rfl ?_
  cases i with
  | zero =>
    refine zi_if_lt O 93 d_Mod_badPiece_18 (by decide) (fun c18 => ?_) (fun c18 => ?_)
    · refine zi_iload_n O d_Mod_badPiece_93 rfl ?_
      refine zi_iret O d_Mod_badPiece_94 (Nat.le_of_ble_eq_true rfl) (Nat.le_of_ble_eq_true rfl) (Nat.le_of_ble_eq_true rfl) ?_
      refine ⟨v, row', fof', piece', rfl, rfl, ?_⟩
      rcases hv with ⟨v1, v2⟩ | v1
      · exact Or.inl ⟨v1, fun k hk => v2 k (Nat.zero_le _) hk⟩
      · exact Or.inr v1
    · exact absurd (by decide) c18
  | succ i =>
    rw [show lst (i + 1) = nI i by unfold lst; rw [if_neg (by omega), Nat.add_sub_cancel]]
    have hoi := (hP.1 i (by omega)).1
    refine zi_if_lt O 93 d_Mod_badPiece_18 (by decide) (fun c18 => ?_) (fun c18 => ?_)
    · exact absurd c18 (nI_pos (by omega))
    · refine zi_iconstN O 0 d_Mod_badPiece_21 (by decide) ?_
      refine zi_istore_n (ls' := _ :: _ :: _ :: some _ :: _) O d_Mod_badPiece_22 rfl (by decide) rfl ?_
      refine zi_iconstN O 0 d_Mod_badPiece_23 (by decide) ?_
      refine zi_istore (ls' := _ :: _ :: _ :: _ :: some _ :: _) O d_Mod_badPiece_24 rfl (by decide) rfl ?_
      refine zi_for (fun c => [some (.ref 0), some (.int v), some (.int (nI i)), some (.int (nI (cnt (fun c => oc c = i) c))), some (.int (nI c))]) (fun _ => (mh put wrong pS pL n ci oN oC S L oS oL (2 * n) row' fresh piece' closed ((FF (nxD fr to_ at_) (4 * n) (4 * n)).2) comp fof' sides side free arnd)) 0 n (by omega) rfl rfl (fun c _ hc ih2 => ?_) ?_
      · have := (hP.1 c hc).1
        rw [cnt] at ih2
        refine zi_iload O d_Mod_badPiece_26 rfl ?_
        refine zi_aload_n O d_Mod_badPiece_28 rfl ?_
        refine zi_get O f_Mod_59 d_Mod_badPiece_29 rfl rfl ?_
        refine zi_icmp_geN O 60 d_Mod_badPiece_32 (by decide) (by omega) (by omega) (fun c32 => ?_) (fun c32 => ?_)
        · omega
        · refine zi_iload_n O d_Mod_badPiece_35 rfl ?_
          refine zi_aload_n O d_Mod_badPiece_36 rfl ?_
          refine zi_get O f_Mod_38 d_Mod_badPiece_37 rfl rfl ?_
          refine zi_iload O d_Mod_badPiece_40 rfl ?_
          refine zi_iald O d_Mod_badPiece_42 rfl rfl (by omega) (Nat.le_of_ble_eq_true rfl) ?_
          rw [hpc c hc]
          refine zi_iload_n O d_Mod_badPiece_43 rfl ?_
          refine zi_icmp_neN O 51 d_Mod_badPiece_44 (by decide) (by omega) (by omega) (fun c44 => ?_) (fun c44 => ?_)
          · rw [if_neg c44] at ih2
            refine zi_iconstN O 0 d_Mod_badPiece_51 (by decide) ?_
            first | refine zi_iaddN O d_Mod_badPiece_52 ?_ | refine zi_iadd O d_Mod_badPiece_52 ?_
            refine zi_istore_n (ls' := _ :: _ :: _ :: some _ :: _) O d_Mod_badPiece_53 rfl (by decide) rfl ?_
            refine zi_iincN (ls' := _ :: _ :: _ :: _ :: some _ :: _) O 1 d_Mod_badPiece_54 rfl (by decide) rfl (by decide) rfl ?_
            refine zi_goto O 26 d_Mod_badPiece_57 (by decide) ?_
            exact ih2
          · rw [if_pos c44] at ih2
            refine zi_iconstN O 1 d_Mod_badPiece_47 (by decide) ?_
            refine zi_goto O 52 d_Mod_badPiece_48 (by decide) ?_
            first | refine zi_iaddN O d_Mod_badPiece_52 ?_ | refine zi_iadd O d_Mod_badPiece_52 ?_
            refine zi_istore_n (ls' := _ :: _ :: _ :: some _ :: _) O d_Mod_badPiece_53 rfl (by decide) rfl ?_
            refine zi_iincN (ls' := _ :: _ :: _ :: _ :: some _ :: _) O 1 d_Mod_badPiece_54 rfl (by decide) rfl (by decide) rfl ?_
            refine zi_goto O 26 d_Mod_badPiece_57 (by decide) ?_
            exact ih2
      · have hcl := cnt_le (fun c => oc c = i) n
        have hcf := cnt_le (fbg n fr to_ at_ oc i) (4 * n)
        have fin : ∀ (v' : Int32), ((v' < 0 ∧ ∀ k, i ≤ k → k < n → oc k = k → cnt (fbg n fr to_ at_ oc k) (4 * n) = cnt (fun c => oc c = k) n + 2) ∨ (¬ v' < 0 ∧ ∃ k, k < n ∧ oc k = k ∧ cnt (fbg n fr to_ at_ oc k) (4 * n) ≠ cnt (fun c => oc c = k) n + 2)) → zG z1 z2 z3 z4 z5 z6 z7 z8 z9 z10 z11 z12 z13 z14 15 5 (fun r h' => ∃ (v : Int32) (row' fof' piece' : Nat → Int32), r = some (.int v) ∧ h' = (mh put wrong pS pL n ci oN oC S L oS oL (2 * n) row' fresh piece' closed ((FF (nxD fr to_ at_) (4 * n) (4 * n)).2) comp fof' sides side free arnd) ∧ ((v < 0 ∧ ∀ k, k < n → oc k = k → cnt (fbg n fr to_ at_ oc k) (4 * n) = cnt (fun c => oc c = k) n + 2) ∨ (¬ v < 0 ∧ ∃ k, k < n ∧ oc k = k ∧ cnt (fbg n fr to_ at_ oc k) (4 * n) ≠ cnt (fun c => oc c = k) n + 2))) 0 0 0 0 86 [some (.ref 0), some (.int v), some (.int (nI i)), some (.int (nI (cnt (fun c => oc c = i) n))), some (.int (nI n))] [.int v'] (mh put wrong pS pL n ci oN oC S L oS oL (2 * n) row' fresh piece' closed ((FF (nxD fr to_ at_) (4 * n) (4 * n)).2) comp fof' sides side free arnd) := by
          intro v' hv'
          refine zi_istore_n (ls' := _ :: some _ :: _) O d_Mod_badPiece_86 rfl (by decide) rfl ?_
          refine zi_iinc (x := nI i) (v := lst i) (ls' := _ :: _ :: some _ :: _) O d_Mod_badPiece_87 rfl (by decide) rfl (by rw [show Int32.ofInt (-1) = -1 by decide]; exact lst_dec i) rfl ?_
          refine zi_goto O 17 d_Mod_badPiece_90 (by decide) ?_
          refine zi_no 3 (ls' := _ :: _ :: _ :: none :: _) rfl ?_
          refine zi_no 4 (ls' := _ :: _ :: _ :: _ :: none :: _) rfl ?_
          exact ih (i, v') ⟨by dsimp only; omega, hv'⟩ (by dsimp only; omega)
        have keep : (oc i = i → cnt (fbg n fr to_ at_ oc i) (4 * n) = cnt (fun c => oc c = i) n + 2) → ((v < 0 ∧ ∀ k, i ≤ k → k < n → oc k = k → cnt (fbg n fr to_ at_ oc k) (4 * n) = cnt (fun c => oc c = k) n + 2) ∨ (¬ v < 0 ∧ ∃ k, k < n ∧ oc k = k ∧ cnt (fbg n fr to_ at_ oc k) (4 * n) ≠ cnt (fun c => oc c = k) n + 2)) := by
          intro hgood
          rcases hv with ⟨v1, v2⟩ | v1
          · refine Or.inl ⟨v1, fun k h1 h2 h3 => ?_⟩
            by_cases e : k = i
            · subst e; exact hgood h3
            · exact v2 k (by omega) h2 h3
          · exact Or.inr v1
        refine zi_iload O d_Mod_badPiece_26 rfl ?_
        refine zi_aload_n O d_Mod_badPiece_28 rfl ?_
        refine zi_get O f_Mod_59 d_Mod_badPiece_29 rfl rfl ?_
        refine zi_icmp_geN O 60 d_Mod_badPiece_32 (by decide) (by omega) (by omega) (fun c32 => ?_) (fun c32 => ?_)
        · refine zi_aload_n O d_Mod_badPiece_60 rfl ?_
          refine zi_get O f_Mod_38 d_Mod_badPiece_61 rfl rfl ?_
          refine zi_iload_n O d_Mod_badPiece_64 rfl ?_
          refine zi_iald O d_Mod_badPiece_65 rfl rfl (by omega) (Nat.le_of_ble_eq_true rfl) ?_
          rw [hpc i (by omega)]
          refine zi_iload_n O d_Mod_badPiece_66 rfl ?_
          refine zi_icmp_neN O 85 d_Mod_badPiece_67 (by decide) (by omega) (by omega) (fun c67 => ?_) (fun c67 => ?_)
          · refine zi_iload_n O d_Mod_badPiece_85 rfl ?_
            exact fin v (keep (fun z => absurd z c67))
          · refine zi_aload_n O d_Mod_badPiece_70 rfl ?_
            refine zi_iload_n O d_Mod_badPiece_71 rfl ?_
            refine zi_selfP O c_Mod_113 k_Mod_facesAt (m_Mod_facesAt hR hG h rfl hrow hfof hpc (fun c hc => (hP.1 c hc).1) i (by omega)) d_Mod_badPiece_72 ⟨(Nat.le_of_ble_eq_true rfl), (Nat.le_of_ble_eq_true rfl)⟩ ⟨(Nat.le_of_ble_eq_true rfl), (Nat.le_of_ble_eq_true rfl)⟩ rfl rfl (Nat.le_of_ble_eq_true rfl) rfl rfl rfl (Nat.le_of_ble_eq_true rfl) rfl ?_
            refine zi_iload_n O d_Mod_badPiece_75 rfl ?_
            refine zi_iconstN O 2 d_Mod_badPiece_76 (by decide) ?_
            first | refine zi_iaddN O d_Mod_badPiece_77 ?_ | refine zi_iadd O d_Mod_badPiece_77 ?_
            refine zi_icmp_eqN O 85 d_Mod_badPiece_78 (by decide) (by omega) (by omega) (fun c78 => ?_) (fun c78 => ?_)
            · refine zi_iload_n O d_Mod_badPiece_85 rfl ?_
              exact fin v (keep (fun _ => c78))
            · refine zi_iload_n O d_Mod_badPiece_81 rfl ?_
              refine zi_goto O 86 d_Mod_badPiece_82 (by decide) ?_
              exact fin (nI i) (Or.inr ⟨nI_pos (by omega), i, by omega, c67, c78⟩)
        · omega
end
