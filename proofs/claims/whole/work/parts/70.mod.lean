/-! The model: its cells; its readers -/
abbrev mh (put : Nat) (wrong : Int32) (pS pL : Nat → Int32) (n : Nat) (ci : Int32) (oN : Nat) (oC : Int32) (S L oS oL : Nat → Int32) (labs : Nat) (row fresh piece : Nat → Int32) (closed faces : Nat) (comp fof : Nat → Int32) (sides : Nat) (side free arnd : Nat → Int32) : List zE :=
  [zo 7 [.int 0, .int (nI put), .int wrong, .ref 1, .ref 2, .int (nI n), .int ci, .int (nI oN), .int oC, .ref 3, .ref 4, .ref 5, .ref 6, .int (nI labs), .ref 7, .ref 8, .ref 9, .int (nI closed), .int (nI faces), .ref 10, .ref 11, .int (nI sides), .ref 12, .ref 13, .ref 14], za 20 pS, za 80 pL, za 20 S, za 80 L, za 20 oS, za 80 oL, za 80 row, za 80 fresh, za 20 piece, za 80 comp, za 80 fof, za 80 side, za 4 free, za 4 arnd]
section
variable {put n oN labs closed faces sides : Nat} {wrong ci oC : Int32} {pS pL S L oS oL row fresh piece comp fof side free arnd : Nat → Int32}
theorem m_Mod_isOut (hn : n ≤ 20) (hG : Sg n S) (q : Nat) (hq : q < 4 * n) : zPu y_Mod_isOut b_Mod_isOut 3 (some .boolean) ⟨0, 0, 0, 0⟩ [.ref 0, .int (nI q)] (mh put wrong pS pL n ci oN oC S L oS oL labs row fresh piece closed faces comp fof sides side free arnd) (.int (zb (¬ gi S q))) := by
  have hup : up S (q / 4) = if 0 < S (q / 4) then 3 else 1 := by
    rw [up]
    rcases hG (q / 4) (by omega) with h | h <;> rw [h] <;> decide
  refine zMet_of (plainFor_of_name (by decide +kernel)) rfl (Nat.le_of_ble_eq_true rfl) (fun z1 z2 z3 z4 z5 z6 z7 z8 z9 z10 z11 z12 z13 z14 O hin => ?_)
  refine zi_ls (ls' := [some (.ref 0), some (.int (nI q)), none]) rfl ?_
  refine zi_iload_n O d_Mod_isOut_0 rfl ?_
  refine zi_iconstN O 4 d_Mod_isOut_1 (by decide) ?_
  refine zi_iremN O d_Mod_isOut_2 (by omega) (by omega) (by omega) ?_
  refine zi_istore_n (ls' := _ :: _ :: some _ :: _) O d_Mod_isOut_3 rfl (by decide) rfl ?_
  refine zi_iload_n O d_Mod_isOut_4 rfl ?_
  refine zi_iconstN O 2 d_Mod_isOut_5 (by decide) ?_
  refine zi_icmp_eqN O 29 d_Mod_isOut_6 (by decide) (by omega) (by omega) (fun c6 => ?_) (fun c6 => ?_)
  · refine zi_iconstN O 1 d_Mod_isOut_29 (by decide) ?_
    refine zi_goto O 34 d_Mod_isOut_30 (by decide) ?_
    refine zi_zret O d_Mod_isOut_34 rfl (Nat.le_of_ble_eq_true rfl) (Nat.le_of_ble_eq_true rfl) (Nat.le_of_ble_eq_true rfl) ?_
    refine ⟨?_, rfl⟩
    rw [zb_t (by unfold gi; rw [hup]; split <;> omega)]; rfl
  · refine zi_iload_n O d_Mod_isOut_9 rfl ?_
    refine zi_aload_n O d_Mod_isOut_10 rfl ?_
    refine zi_get O f_Mod_20 d_Mod_isOut_11 rfl rfl ?_
    refine zi_iload_n O d_Mod_isOut_14 rfl ?_
    refine zi_iconstN O 4 d_Mod_isOut_15 (by decide) ?_
    refine zi_idivN O d_Mod_isOut_16 (by omega) (by omega) (by omega) ?_
    refine zi_iald O d_Mod_isOut_17 rfl rfl (by omega) (Nat.le_of_ble_eq_true rfl) ?_
    refine zi_if_le O 25 d_Mod_isOut_18 (by decide) (fun c18 => ?_) (fun c18 => ?_)
    · refine zi_iconstN O 3 d_Mod_isOut_25 (by decide) ?_
      refine zi_icmp_neN O 33 d_Mod_isOut_26 (by decide) (by omega) (by omega) (fun c26 => ?_) (fun c26 => ?_)
      · refine zi_iconstN O 0 d_Mod_isOut_33 (by decide) ?_
        refine zi_zret O d_Mod_isOut_34 rfl (Nat.le_of_ble_eq_true rfl) (Nat.le_of_ble_eq_true rfl) (Nat.le_of_ble_eq_true rfl) ?_
        refine ⟨?_, rfl⟩
        rw [zb_f]
        · rfl
        · unfold gi
          rw [hup, if_neg (Int32.not_lt.mpr c18)]
          omega
      · refine zi_iconstN O 1 d_Mod_isOut_29 (by decide) ?_
        refine zi_goto O 34 d_Mod_isOut_30 (by decide) ?_
        refine zi_zret O d_Mod_isOut_34 rfl (Nat.le_of_ble_eq_true rfl) (Nat.le_of_ble_eq_true rfl) (Nat.le_of_ble_eq_true rfl) ?_
        refine ⟨?_, rfl⟩
        rw [zb_t (by unfold gi; rw [hup, if_neg (Int32.not_lt.mpr c18)]; omega)]; rfl
    · refine zi_iconstN O 1 d_Mod_isOut_21 (by decide) ?_
      refine zi_goto O 26 d_Mod_isOut_22 (by decide) ?_
      refine zi_icmp_neN O 33 d_Mod_isOut_26 (by decide) (by omega) (by omega) (fun c26 => ?_) (fun c26 => ?_)
      · refine zi_iconstN O 0 d_Mod_isOut_33 (by decide) ?_
        refine zi_zret O d_Mod_isOut_34 rfl (Nat.le_of_ble_eq_true rfl) (Nat.le_of_ble_eq_true rfl) (Nat.le_of_ble_eq_true rfl) ?_
        refine ⟨?_, rfl⟩
        rw [zb_f]
        · rfl
        · unfold gi
          rw [hup, if_pos (Int32.not_le.mp c18)]
          omega
      · refine zi_iconstN O 1 d_Mod_isOut_29 (by decide) ?_
        refine zi_goto O 34 d_Mod_isOut_30 (by decide) ?_
        refine zi_zret O d_Mod_isOut_34 rfl (Nat.le_of_ble_eq_true rfl) (Nat.le_of_ble_eq_true rfl) (Nat.le_of_ble_eq_true rfl) ?_
        refine ⟨?_, rfl⟩
        rw [zb_t (by unfold gi; rw [hup, if_pos (Int32.not_le.mp c18)]; omega)]; rfl
theorem m_Mod_isUpper (q : Nat) (hq : q < 80) : zPu y_Mod_isUpper b_Mod_isUpper 1 (some .boolean) ⟨0, 0, 0, 0⟩ [.int (nI q)] [] (.int (zb (q % 2 = 1))) := by
  refine zMet_of (plainFor_of_name (by decide +kernel)) rfl (Nat.le_of_ble_eq_true rfl) (fun z1 z2 z3 z4 z5 z6 z7 z8 z9 z10 z11 z12 z13 z14 O hin => ?_)
  refine zi_ls (ls' := [some (.int (nI q))]) rfl ?_
  refine zi_iload_n O d_Mod_isUpper_0 rfl ?_
  refine zi_iconstN O 2 d_Mod_isUpper_1 (by decide) ?_
  refine zi_iremN O d_Mod_isUpper_2 (by omega) (by omega) (by omega) ?_
  refine zi_iconstN O 1 d_Mod_isUpper_3 (by decide) ?_
  refine zi_icmp_neN O 11 d_Mod_isUpper_4 (by decide) (by omega) (by omega) (fun c4 => ?_) (fun c4 => ?_)
  · refine zi_iconstN O 0 d_Mod_isUpper_11 (by decide) ?_
    refine zi_zret O d_Mod_isUpper_12 rfl (Nat.le_of_ble_eq_true rfl) (Nat.le_of_ble_eq_true rfl) (Nat.le_of_ble_eq_true rfl) ?_
    exact ⟨by rw [zb_f c4]; rfl, rfl⟩
  · refine zi_iconstN O 1 d_Mod_isUpper_7 (by decide) ?_
    refine zi_goto O 12 d_Mod_isUpper_8 (by decide) ?_
    refine zi_zret O d_Mod_isUpper_12 rfl (Nat.le_of_ble_eq_true rfl) (Nat.le_of_ble_eq_true rfl) (Nat.le_of_ble_eq_true rfl) ?_
    exact ⟨by rw [zb_t c4]; rfl, rfl⟩
theorem m_Mod_across (q : Nat) (hq : q < 80) : zPu y_Mod_across b_Mod_across 1 (some .int) ⟨0, 0, 0, 0⟩ [.int (nI q)] [] (.int (nI (ac q))) := by
  refine zMet_of (plainFor_of_name (by decide +kernel)) rfl (Nat.le_of_ble_eq_true rfl) (fun z1 z2 z3 z4 z5 z6 z7 z8 z9 z10 z11 z12 z13 z14 O hin => ?_)
  refine zi_ls (ls' := [some (.int (nI q))]) rfl ?_
  refine zi_iload_n O d_Mod_across_0 rfl ?_
  refine zi_iconstN O 4 d_Mod_across_1 (by decide) ?_
  refine zi_idivN O d_Mod_across_2 (by omega) (by omega) (by omega) ?_
  refine zi_iconstN O 4 d_Mod_across_3 (by decide) ?_
  first | refine zi_imulN O d_Mod_across_4 ?_ | refine zi_imul O d_Mod_across_4 ?_
  refine zi_iload_n O d_Mod_across_5 rfl ?_
  refine zi_iconstN O 2 d_Mod_across_6 (by decide) ?_
  first | refine zi_iaddN O d_Mod_across_7 ?_ | refine zi_iadd O d_Mod_across_7 ?_
  refine zi_iconstN O 4 d_Mod_across_8 (by decide) ?_
  refine zi_iremN O d_Mod_across_9 (by omega) (by omega) (by omega) ?_
  first | refine zi_iaddN O d_Mod_across_10 ?_ | refine zi_iadd O d_Mod_across_10 ?_
  refine zi_iret O d_Mod_across_11 (Nat.le_of_ble_eq_true rfl) (Nat.le_of_ble_eq_true rfl) (Nat.le_of_ble_eq_true rfl) ?_
  exact ⟨by rw [show q / 4 * 4 + (q + 2) % 4 = ac q by unfold ac; omega], rfl⟩
end
/-- the last place of a label, of a kind -/
def plc (lab : Nat → Nat) (S : Nat → Int32) (l o : Nat) : Nat → Int32
  | 0 => -1
  | k + 1 => if lab k = l ∧ zb (¬ gi S k) = nI o then nI k else plc lab S l o k
section
variable {put n oN labs closed faces sides : Nat} {wrong ci oC : Int32} {pS pL S L oS oL row fresh piece comp fof side free arnd : Nat → Int32}
theorem m_Mod_placeOf (lab : Nat → Nat) (hR : RowOK n L lab) (hG : Sg n S) (l o : Nat) (hl : l < 2 ^ 31) : zPu y_Mod_placeOf b_Mod_placeOf 5 (some .int) ⟨1, 0, 0, 24⟩ [.ref 0, .int (nI l), .int (nI o)] (mh put wrong pS pL n ci oN oC S L oS oL labs row fresh piece closed faces comp fof sides side free arnd) (.int (plc lab S l o (4 * n))) := by
  obtain ⟨hn, hL⟩ := hR
  refine zMet_of (plainFor_of_name (by decide +kernel)) rfl (Nat.le_of_ble_eq_true rfl) (fun z1 z2 z3 z4 z5 z6 z7 z8 z9 z10 z11 z12 z13 z14 O hin => ?_)
  refine zi_ls (ls' := [some (.ref 0), some (.int (nI l)), some (.int (nI o)), none, none]) rfl ?_
  refine zi_iconst (v := -1) O d_Mod_placeOf_0 (by decide) ?_
  refine zi_istore_n (ls' := _ :: _ :: _ :: some _ :: _) O d_Mod_placeOf_1 rfl (by decide) rfl ?_
  refine zi_iconstN O 0 d_Mod_placeOf_2 (by decide) ?_
  refine zi_istore (ls' := _ :: _ :: _ :: _ :: some _ :: _) O d_Mod_placeOf_3 rfl (by decide) rfl ?_
  refine zi_for (fun i => [some (.ref 0), some (.int (nI l)), some (.int (nI o)), some (.int (plc lab S l o i)), some (.int (nI i))]) (fun _ => (mh put wrong pS pL n ci oN oC S L oS oL labs row fresh piece closed faces comp fof sides side free arnd)) 0 (4 * n) (by omega) rfl rfl (fun i _ hi ih => ?_) ?_
  · obtain ⟨h1, h2, h3⟩ := hL i hi
    rw [plc] at ih
    refine zi_iload O d_Mod_placeOf_5 rfl ?_
    refine zi_iconstN O 4 d_Mod_placeOf_7 (by decide) ?_
    refine zi_aload_n O d_Mod_placeOf_8 rfl ?_
    refine zi_get O f_Mod_59 d_Mod_placeOf_9 rfl rfl ?_
    first | refine zi_imulN O d_Mod_placeOf_12 ?_ | refine zi_imul O d_Mod_placeOf_12 ?_
    refine zi_icmp_geN O 50 d_Mod_placeOf_13 (by decide) (by omega) (by omega) (fun c13 => ?_) (fun c13 => ?_)
    · omega
    · refine zi_aload_n O d_Mod_placeOf_16 rfl ?_
      refine zi_get O f_Mod_23 d_Mod_placeOf_17 rfl rfl ?_
      refine zi_iload O d_Mod_placeOf_20 rfl ?_
      refine zi_iald O d_Mod_placeOf_22 rfl rfl (by omega) (Nat.le_of_ble_eq_true rfl) ?_
      rw [h1]
      refine zi_iload_n O d_Mod_placeOf_23 rfl ?_
      refine zi_icmp_neN O 42 d_Mod_placeOf_24 (by decide) (by omega) (by omega) (fun c24 => ?_) (fun c24 => ?_)
      · refine zi_iload_n O d_Mod_placeOf_42 rfl ?_
        refine zi_istore_n (ls' := _ :: _ :: _ :: some _ :: _) O d_Mod_placeOf_43 rfl (by decide) rfl ?_
        refine zi_iincN (ls' := _ :: _ :: _ :: _ :: some _ :: _) O 1 d_Mod_placeOf_44 rfl (by decide) rfl (by decide) rfl ?_
        refine zi_goto O 5 d_Mod_placeOf_47 (by decide) ?_
        rw [if_neg (fun z => c24 z.1)] at ih
        exact ih
      · refine zi_aload_n O d_Mod_placeOf_27 rfl ?_
        refine zi_iload O d_Mod_placeOf_28 rfl ?_
        refine zi_selfP O c_Mod_62 k_Mod_isOut (m_Mod_isOut hn hG i (by omega)) d_Mod_placeOf_30 ⟨(Nat.le_of_ble_eq_true rfl), (Nat.le_of_ble_eq_true rfl)⟩ ⟨(Nat.le_of_ble_eq_true rfl), (Nat.le_of_ble_eq_true rfl)⟩ rfl rfl (Nat.le_of_ble_eq_true rfl) rfl rfl rfl (Nat.le_of_ble_eq_true rfl) rfl ?_
        refine zi_iload_n O d_Mod_placeOf_33 rfl ?_
        refine zi_icmp_ne O 42 d_Mod_placeOf_34 (by decide) (fun c34 => ?_) (fun c34 => ?_)
        · refine zi_iload_n O d_Mod_placeOf_42 rfl ?_
          refine zi_istore_n (ls' := _ :: _ :: _ :: some _ :: _) O d_Mod_placeOf_43 rfl (by decide) rfl ?_
          refine zi_iincN (ls' := _ :: _ :: _ :: _ :: some _ :: _) O 1 d_Mod_placeOf_44 rfl (by decide) rfl (by decide) rfl ?_
          refine zi_goto O 5 d_Mod_placeOf_47 (by decide) ?_
          rw [if_neg (fun z => c34 z.2)] at ih
          exact ih
        · refine zi_iload O d_Mod_placeOf_37 rfl ?_
          refine zi_goto O 43 d_Mod_placeOf_39 (by decide) ?_
          refine zi_istore_n (ls' := _ :: _ :: _ :: some _ :: _) O d_Mod_placeOf_43 rfl (by decide) rfl ?_
          refine zi_iincN (ls' := _ :: _ :: _ :: _ :: some _ :: _) O 1 d_Mod_placeOf_44 rfl (by decide) rfl (by decide) rfl ?_
          refine zi_goto O 5 d_Mod_placeOf_47 (by decide) ?_
          rw [if_pos ⟨c24, c34⟩] at ih
          exact ih
  · refine zi_iload O d_Mod_placeOf_5 rfl ?_
    refine zi_iconstN O 4 d_Mod_placeOf_7 (by decide) ?_
    refine zi_aload_n O d_Mod_placeOf_8 rfl ?_
    refine zi_get O f_Mod_59 d_Mod_placeOf_9 rfl rfl ?_
    first | refine zi_imulN O d_Mod_placeOf_12 ?_ | refine zi_imul O d_Mod_placeOf_12 ?_
    refine zi_icmp_geN O 50 d_Mod_placeOf_13 (by decide) (by omega) (by omega) (fun c13 => ?_) (fun c13 => ?_)
    · refine zi_iload_n O d_Mod_placeOf_50 rfl ?_
      refine zi_iret O d_Mod_placeOf_51 (Nat.le_of_ble_eq_true rfl) (Nat.le_of_ble_eq_true rfl) (Nat.le_of_ble_eq_true rfl) ?_
      exact ⟨rfl, rfl⟩
    · omega
end
theorem plc_cases {lab : Nat → Nat} {S : Nat → Int32} {l o : Nat} : ∀ N, (plc lab S l o N = -1 ∧ ∀ q, q < N → ¬ (lab q = l ∧ zb (¬ gi S q) = nI o)) ∨ ∃ q, q < N ∧ lab q = l ∧ zb (¬ gi S q) = nI o ∧ plc lab S l o N = nI q
  | 0 => Or.inl ⟨rfl, fun q hq => absurd hq (Nat.not_lt_zero q)⟩
  | N + 1 => by
    rw [plc]
    by_cases c : lab N = l ∧ zb (¬ gi S N) = nI o
    · exact Or.inr ⟨N, by omega, c.1, c.2, by rw [if_pos c]⟩
    · rw [if_neg c]
      rcases plc_cases (lab := lab) (S := S) (l := l) (o := o) N with ⟨h1, h2⟩ | ⟨q, h1, h2⟩
      · refine Or.inl ⟨h1, fun q hq => ?_⟩
        by_cases e : q = N
        · rw [e]; exact c
        · exact h2 q (by omega)
      · exact Or.inr ⟨q, by omega, h2⟩
theorem el_inj {n : Nat} {lab : Nat → Nat} {S : Nat → Int32} {el fr to_ at_ : Nat → Nat} (h : Ed n lab S el fr to_ at_) {a b : Nat} (ha : a < 2 * n) (hb : b < 2 * n) (he : el a = el b) : a = b := by
  rcases Nat.lt_trichotomy a b with c | c | c
  · have := h.2.1 a b c hb; omega
  · exact c
  · have := h.2.1 b a c ha; omega
theorem lab_at {n : Nat} {lab : Nat → Nat} {S : Nat → Int32} {el fr to_ at_ : Nat → Nat} (h : Ed n lab S el fr to_ at_) {q : Nat} (hq : q < 4 * n) : lab q = el (at_ q) := by
  obtain ⟨h1, h2⟩ := h.2.2 q hq
  obtain ⟨-, -, h3, h4, -⟩ := h.1 _ h1
  rcases h2 with h2 | h2
  · rw [← h3, ← h2]
  · rw [← h4, ← h2]
theorem plc_fr {n : Nat} {lab : Nat → Nat} {S : Nat → Int32} {el fr to_ at_ : Nat → Nat} (h : Ed n lab S el fr to_ at_) {e : Nat} (he : e < 2 * n) : plc lab S (el e) 1 (4 * n) = nI (fr e) := by
  obtain ⟨f1, f2, f3, f4, f5, f6⟩ := h.1 e he
  rcases plc_cases (lab := lab) (S := S) (l := el e) (o := 1) (4 * n) with ⟨-, h2⟩ | ⟨q, q1, q2, q3, q4⟩
  · exact absurd ⟨f3, by rw [zb_t f5]; rfl⟩ (h2 _ f1)
  · rw [q4]
    have a1 := lab_at h q1
    have a2 := el_inj h (h.2.2 q q1).1 he (by rw [← a1, q2])
    have hg : ¬ gi S q := by
      intro z
      rw [zb_f (fun w => w z)] at q3
      exact absurd q3 (by decide)
    have := ed_fr_of h q1 hg
    rw [← this, a2]
theorem plc_to {n : Nat} {lab : Nat → Nat} {S : Nat → Int32} {el fr to_ at_ : Nat → Nat} (h : Ed n lab S el fr to_ at_) {e : Nat} (he : e < 2 * n) : plc lab S (el e) 0 (4 * n) = nI (to_ e) := by
  obtain ⟨f1, f2, f3, f4, f5, f6⟩ := h.1 e he
  rcases plc_cases (lab := lab) (S := S) (l := el e) (o := 0) (4 * n) with ⟨-, h2⟩ | ⟨q, q1, q2, q3, q4⟩
  · exact absurd ⟨f4, by rw [zb_f (fun z => z f6)]; rfl⟩ (h2 _ f2)
  · rw [q4]
    have a1 := lab_at h q1
    have a2 := el_inj h (h.2.2 q q1).1 he (by rw [← a1, q2])
    have hg : gi S q := by
      apply Classical.byContradiction
      intro z
      rw [zb_t z] at q3
      exact absurd q3 (by decide)
    have := ed_to_of h q1 hg
    rw [← this, a2]
theorem plc_no {n : Nat} {lab : Nat → Nat} {S : Nat → Int32} {el fr to_ at_ : Nat → Nat} (h : Ed n lab S el fr to_ at_) {l o : Nat} (hl : ∀ e, e < 2 * n → el e ≠ l) : plc lab S l o (4 * n) = -1 := by
  rcases plc_cases (lab := lab) (S := S) (l := l) (o := o) (4 * n) with ⟨h1, -⟩ | ⟨q, q1, q2, q3, q4⟩
  · exact h1
  · exact absurd ((lab_at h q1).symm.trans q2) (hl _ (h.2.2 q q1).1)
