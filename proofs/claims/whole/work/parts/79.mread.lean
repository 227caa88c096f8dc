/-! The model: crossing, many, look -/
theorem okL_iff {x : Int32} : okL x ↔ ¬ x ≤ 0 ∧ ¬ nI 10000 ≤ x := by
  unfold okL
  have e0 : (0 : Int32).toInt = 0 := by decide
  have e1 : (nI 1).toInt = 1 := by decide
  have e2 : (nI 9999).toInt = 9999 := by decide
  have e3 : (nI 10000).toInt = 10000 := by decide
  rw [Int32.lt_iff_toInt_lt, Int32.lt_iff_toInt_lt, Int32.le_iff_toInt_le, Int32.le_iff_toInt_le, e0, e1, e2, e3]
  omega
section
variable {k n : Nat} {plab lab : Nat → Nat} {T S0 : Nat → Int32} {ci : Int32} {h : List zE}
set_option maxHeartbeats 1000000 in
theorem m_Mod_crossing_no (hM : Mdl k plab T n lab S0 ci h) (sg l0 l1 l2 l3 : Int32) (hno : ¬ okC k sg l0 l1 l2 l3) : zPu y_Mod_crossing b_Mod_crossing 7 (some .int) ⟨0, 0, 0, 0⟩ [.ref 0, .int sg, .int l0, .int l1, .int l2, .int l3] h (.int (-1)) := by
  obtain ⟨wrong, pS, pL, oN, oC, S, L, oS, oL, labs, row, fresh, piece, closed, faces, comp, fof, sides, side, free, arnd, rfl, hR, hS, hG, hPR, hPS, hPG⟩ := hM
  have hk := hPR.1
  refine zMet_of (plainFor_of_name (by decide +kernel)) rfl (Nat.le_of_ble_eq_true rfl) (fun z1 z2 z3 z4 z5 z6 z7 z8 z9 z10 z11 z12 z13 z14 O hin => ?_)
  refine zi_ls (ls' := [some (.ref 0), some (.int sg), some (.int l0), some (.int l1), some (.int l2), some (.int l3), none]) rfl ?_
  have tail : ∀ (g : Nat), (g = 0 ∨ (g = 1 ∧ okL l0 ∧ okL l1 ∧ okL l2 ∧ okL l3)) → zG z1 z2 z3 z4 z5 z6 z7 z8 z9 z10 z11 z12 z13 z14 15 7 (fun r h' => r = some (.int (-1)) ∧ h' = (mh k wrong pS pL n ci oN oC S L oS oL labs row fresh piece closed faces comp fof sides side free arnd)) 0 0 0 0 53 [some (.ref 0), some (.int sg), some (.int l0), some (.int l1), some (.int l2), some (.int l3), none] [.int (nI g)] (mh k wrong pS pL n ci oN oC S L oS oL labs row fresh piece closed faces comp fof sides side free arnd) := by
    intro g hg
    have t65 : (sg = nI 1 ∨ sg = -1) → zG z1 z2 z3 z4 z5 z6 z7 z8 z9 z10 z11 z12 z13 z14 15 7 (fun r h' => r = some (.int (-1)) ∧ h' = (mh k wrong pS pL n ci oN oC S L oS oL labs row fresh piece closed faces comp fof sides side free arnd)) 0 0 0 0 65 [some (.ref 0), some (.int sg), some (.int l0), some (.int l1), some (.int l2), some (.int l3), some (.int (nI g))] [] (mh k wrong pS pL n ci oN oC S L oS oL labs row fresh piece closed faces comp fof sides side free arnd) := by
      intro hs
      refine zi_iload O d_Mod_crossing_65 rfl ?_
      refine zi_if_eq O 79 d_Mod_crossing_67 (by decide) (fun c67 => ?_) (fun c67 => ?_)
      · refine zi_iconst (v := -1) O d_Mod_crossing_79 (by decide) ?_
        refine zi_iret O d_Mod_crossing_80 (Nat.le_of_ble_eq_true rfl) (Nat.le_of_ble_eq_true rfl) (Nat.le_of_ble_eq_true rfl) ?_
        exact ⟨rfl, rfl⟩
      · refine zi_aload_n O d_Mod_crossing_70 rfl ?_
        refine zi_get O f_Mod_98 d_Mod_crossing_71 rfl rfl ?_
        refine zi_bipushN O 20 d_Mod_crossing_74 (by decide) ?_
        refine zi_icmp_neN O 81 d_Mod_crossing_76 (by decide) (by omega) (by omega) (fun c76 => ?_) (fun c76 => ?_)
        · exfalso
          rcases hg with z | ⟨-, z⟩
          · rw [z] at c67; exact c67 rfl
          · exact hno ⟨hs, z, by omega⟩
        · refine zi_iconst (v := -1) O d_Mod_crossing_79 (by decide) ?_
          refine zi_iret O d_Mod_crossing_80 (Nat.le_of_ble_eq_true rfl) (Nat.le_of_ble_eq_true rfl) (Nat.le_of_ble_eq_true rfl) ?_
          exact ⟨rfl, rfl⟩
    refine zi_istore (ls' := _ :: _ :: _ :: _ :: _ :: _ :: some _ :: _) O d_Mod_crossing_53 rfl (by decide) rfl ?_
    refine zi_iload_n O d_Mod_crossing_55 rfl ?_
    refine zi_iconstN O 1 d_Mod_crossing_56 (by decide) ?_
    refine zi_icmp_eq O 65 d_Mod_crossing_57 (by decide) (fun c57 => ?_) (fun c57 => ?_)
    · exact t65 (Or.inl c57)
    · refine zi_iload_n O d_Mod_crossing_60 rfl ?_
      refine zi_iconst (v := -1) O d_Mod_crossing_61 (by decide) ?_
      refine zi_icmp_ne O 79 d_Mod_crossing_62 (by decide) (fun c62 => ?_) (fun c62 => ?_)
      · refine zi_iconst (v := -1) O d_Mod_crossing_79 (by decide) ?_
        refine zi_iret O d_Mod_crossing_80 (Nat.le_of_ble_eq_true rfl) (Nat.le_of_ble_eq_true rfl) (Nat.le_of_ble_eq_true rfl) ?_
        exact ⟨rfl, rfl⟩
      · exact t65 (Or.inr (Classical.byContradiction (fun z => absurd z (by first | exact fun w => w c62 | exact c62))))
  have bad : zG z1 z2 z3 z4 z5 z6 z7 z8 z9 z10 z11 z12 z13 z14 15 7 (fun r h' => r = some (.int (-1)) ∧ h' = (mh k wrong pS pL n ci oN oC S L oS oL labs row fresh piece closed faces comp fof sides side free arnd)) 0 0 0 0 52 [some (.ref 0), some (.int sg), some (.int l0), some (.int l1), some (.int l2), some (.int l3), none] [] (mh k wrong pS pL n ci oN oC S L oS oL labs row fresh piece closed faces comp fof sides side free arnd) := by
    refine zi_iconstN O 0 d_Mod_crossing_52 (by decide) ?_
    exact tail 0 (Or.inl rfl)
  refine zi_iload_n O d_Mod_crossing_0 rfl ?_
  refine zi_if_le O 52 d_Mod_crossing_1 (by decide) (fun c1 => ?_) (fun c1 => ?_)
  · exact bad
  · refine zi_iload_n O d_Mod_crossing_4 rfl ?_
    refine zi_if_le O 52 d_Mod_crossing_5 (by decide) (fun c5 => ?_) (fun c5 => ?_)
    · exact bad
    · refine zi_iload O d_Mod_crossing_8 rfl ?_
      refine zi_if_le O 52 d_Mod_crossing_10 (by decide) (fun c10 => ?_) (fun c10 => ?_)
      · exact bad
      · refine zi_iload O d_Mod_crossing_13 rfl ?_
        refine zi_if_le O 52 d_Mod_crossing_15 (by decide) (fun c15 => ?_) (fun c15 => ?_)
        · exact bad
        · refine zi_iload_n O d_Mod_crossing_18 rfl ?_
          refine zi_sipushN O 10000 d_Mod_crossing_19 (by decide) ?_
          refine zi_icmp_ge O 52 d_Mod_crossing_22 (by decide) (fun c22 => ?_) (fun c22 => ?_)
          · exact bad
          · refine zi_iload_n O d_Mod_crossing_25 rfl ?_
            refine zi_sipushN O 10000 d_Mod_crossing_26 (by decide) ?_
            refine zi_icmp_ge O 52 d_Mod_crossing_29 (by decide) (fun c29 => ?_) (fun c29 => ?_)
            · exact bad
            · refine zi_iload O d_Mod_crossing_32 rfl ?_
              refine zi_sipushN O 10000 d_Mod_crossing_34 (by decide) ?_
              refine zi_icmp_ge O 52 d_Mod_crossing_37 (by decide) (fun c37 => ?_) (fun c37 => ?_)
              · exact bad
              · refine zi_iload O d_Mod_crossing_40 rfl ?_
                refine zi_sipushN O 10000 d_Mod_crossing_42 (by decide) ?_
                refine zi_icmp_ge O 52 d_Mod_crossing_45 (by decide) (fun c45 => ?_) (fun c45 => ?_)
                · exact bad
                · refine zi_iconstN O 1 d_Mod_crossing_48 (by decide) ?_
                  refine zi_goto O 53 d_Mod_crossing_49 (by decide) ?_
                  exact tail 1 (Or.inr ⟨rfl, okL_iff.mpr ⟨c1, c22⟩, okL_iff.mpr ⟨c5, c29⟩, okL_iff.mpr ⟨c10, c37⟩, okL_iff.mpr ⟨c15, c45⟩⟩)
set_option maxHeartbeats 1000000 in
theorem m_Mod_crossing (hM : Mdl k plab T n lab S0 ci h) (sg : Int32) (a0 a1 a2 a3 : Nat) (hs : sg = nI 1 ∨ sg = -1) (h0 : 1 ≤ a0 ∧ a0 ≤ 9999) (h1 : 1 ≤ a1 ∧ a1 ≤ 9999) (h2 : 1 ≤ a2 ∧ a2 ≤ 9999) (h3 : 1 ≤ a3 ∧ a3 ≤ 9999) (hk : k < 20) : zMet y_Mod_crossing b_Mod_crossing 7 (some .int) ⟨0, 0, 0, 0⟩ [.ref 0, .int sg, .int (nI a0), .int (nI a1), .int (nI a2), .int (nI a3)] h
    (fun r h' => r = some (.int (nI (k + 1))) ∧ Mdl (k + 1) (ad4 plab k a0 a1 a2 a3) (upd T k sg) n lab S0 ci h') := by
  obtain ⟨wrong, pS, pL, oN, oC, S, L, oS, oL, labs, row, fresh, piece, closed, faces, comp, fof, sides, side, free, arnd, rfl, hR, hS, hG, hPR, hPS, hPG⟩ := hM
  refine zMet_of (plainFor_of_name (by decide +kernel)) rfl (Nat.le_of_ble_eq_true rfl) (fun z1 z2 z3 z4 z5 z6 z7 z8 z9 z10 z11 z12 z13 z14 O hin => ?_)
  refine zi_ls (ls' := [some (.ref 0), some (.int sg), some (.int (nI a0)), some (.int (nI a1)), some (.int (nI a2)), some (.int (nI a3)), none]) rfl ?_
  have fin : zG z1 z2 z3 z4 z5 z6 z7 z8 z9 z10 z11 z12 z13 z14 15 7 (fun r h' => r = some (.int (nI (k + 1))) ∧ Mdl (k + 1) (ad4 plab k a0 a1 a2 a3) (upd T k sg) n lab S0 ci h') 0 0 0 0 65 [some (.ref 0), some (.int sg), some (.int (nI a0)), some (.int (nI a1)), some (.int (nI a2)), some (.int (nI a3)), some (.int (nI 1))] [] (mh k wrong pS pL n ci oN oC S L oS oL labs row fresh piece closed faces comp fof sides side free arnd) := by
    refine zi_iload O d_Mod_crossing_65 rfl ?_
    refine zi_if_eq O 79 d_Mod_crossing_67 (by decide) (fun c67 => ?_) (fun c67 => ?_)
    · exact absurd c67 (by decide)
    · refine zi_aload_n O d_Mod_crossing_70 rfl ?_
      refine zi_get O f_Mod_98 d_Mod_crossing_71 rfl rfl ?_
      refine zi_bipushN O 20 d_Mod_crossing_74 (by decide) ?_
      refine zi_icmp_neN O 81 d_Mod_crossing_76 (by decide) (by omega) (by omega) (fun c76 => ?_) (fun c76 => ?_)
      · refine zi_aload_n O d_Mod_crossing_81 rfl ?_
        refine zi_get O f_Mod_13 d_Mod_crossing_82 rfl rfl ?_
        refine zi_aload_n O d_Mod_crossing_85 rfl ?_
        refine zi_get O f_Mod_98 d_Mod_crossing_86 rfl rfl ?_
        refine zi_iload_n O d_Mod_crossing_89 rfl ?_
        refine zi_iast O d_Mod_crossing_90 rfl rfl (by omega) (Nat.le_of_ble_eq_true rfl) (by dsimp only [List.set]) ?_
        refine zi_aload_n O d_Mod_crossing_91 rfl ?_
        refine zi_get O f_Mod_17 d_Mod_crossing_92 rfl rfl ?_
        refine zi_iconstN O 4 d_Mod_crossing_95 (by decide) ?_
        refine zi_aload_n O d_Mod_crossing_96 rfl ?_
        refine zi_get O f_Mod_98 d_Mod_crossing_97 rfl rfl ?_
        first | refine zi_imulN O d_Mod_crossing_100 ?_ | refine zi_imul O d_Mod_crossing_100 ?_
        refine zi_iload_n O d_Mod_crossing_101 rfl ?_
        refine zi_iast O d_Mod_crossing_102 rfl rfl (by omega) (Nat.le_of_ble_eq_true rfl) (by dsimp only [List.set]) ?_
        refine zi_aload_n O d_Mod_crossing_103 rfl ?_
        refine zi_get O f_Mod_17 d_Mod_crossing_104 rfl rfl ?_
        refine zi_iconstN O 4 d_Mod_crossing_107 (by decide) ?_
        refine zi_aload_n O d_Mod_crossing_108 rfl ?_
        refine zi_get O f_Mod_98 d_Mod_crossing_109 rfl rfl ?_
        first | refine zi_imulN O d_Mod_crossing_112 ?_ | refine zi_imul O d_Mod_crossing_112 ?_
        refine zi_iconstN O 1 d_Mod_crossing_113 (by decide) ?_
        first | refine zi_iaddN O d_Mod_crossing_114 ?_ | refine zi_iadd O d_Mod_crossing_114 ?_
        refine zi_iload_n O d_Mod_crossing_115 rfl ?_
        refine zi_iast O d_Mod_crossing_116 rfl rfl (by omega) (Nat.le_of_ble_eq_true rfl) (by dsimp only [List.set]) ?_
        refine zi_aload_n O d_Mod_crossing_117 rfl ?_
        refine zi_get O f_Mod_17 d_Mod_crossing_118 rfl rfl ?_
        refine zi_iconstN O 4 d_Mod_crossing_121 (by decide) ?_
        refine zi_aload_n O d_Mod_crossing_122 rfl ?_
        refine zi_get O f_Mod_98 d_Mod_crossing_123 rfl rfl ?_
        first | refine zi_imulN O d_Mod_crossing_126 ?_ | refine zi_imul O d_Mod_crossing_126 ?_
        refine zi_iconstN O 2 d_Mod_crossing_127 (by decide) ?_
        first | refine zi_iaddN O d_Mod_crossing_128 ?_ | refine zi_iadd O d_Mod_crossing_128 ?_
        refine zi_iload O d_Mod_crossing_129 rfl ?_
        refine zi_iast O d_Mod_crossing_131 rfl rfl (by omega) (Nat.le_of_ble_eq_true rfl) (by dsimp only [List.set]) ?_
        refine zi_aload_n O d_Mod_crossing_132 rfl ?_
        refine zi_get O f_Mod_17 d_Mod_crossing_133 rfl rfl ?_
        refine zi_iconstN O 4 d_Mod_crossing_136 (by decide) ?_
        refine zi_aload_n O d_Mod_crossing_137 rfl ?_
        refine zi_get O f_Mod_98 d_Mod_crossing_138 rfl rfl ?_
        first | refine zi_imulN O d_Mod_crossing_141 ?_ | refine zi_imul O d_Mod_crossing_141 ?_
        refine zi_iconstN O 3 d_Mod_crossing_142 (by decide) ?_
        first | refine zi_iaddN O d_Mod_crossing_143 ?_ | refine zi_iadd O d_Mod_crossing_143 ?_
        refine zi_iload O d_Mod_crossing_144 rfl ?_
        refine zi_iast O d_Mod_crossing_146 rfl rfl (by omega) (Nat.le_of_ble_eq_true rfl) (by dsimp only [List.set]) ?_
        refine zi_aload_n O d_Mod_crossing_147 rfl ?_
        refine zi_dup O d_Mod_crossing_148 rfl ?_
        refine zi_get O f_Mod_98 d_Mod_crossing_149 rfl rfl ?_
        refine zi_iconstN O 1 d_Mod_crossing_152 (by decide) ?_
        first | refine zi_iaddN O d_Mod_crossing_153 ?_ | refine zi_iadd O d_Mod_crossing_153 ?_
        refine zi_put O f_Mod_98 d_Mod_crossing_154 rfl (Nat.le_of_ble_eq_true rfl) (fun _ => rfl) (fun _ => rfl) (by dsimp only [List.set]) ?_
        refine zi_aload_n O d_Mod_crossing_157 rfl ?_
        refine zi_get O f_Mod_98 d_Mod_crossing_158 rfl rfl ?_
        refine zi_iret O d_Mod_crossing_161 (Nat.le_of_ble_eq_true rfl) (Nat.le_of_ble_eq_true rfl) (Nat.le_of_ble_eq_true rfl) ?_
        refine ⟨rfl, _, _, _, _, _, _, _, _, _, _, _, _, _, _, _, _, _, _, _, _, _, rfl, hR, hS, hG, rowOK_ad hPR hk h0 h1 h2 h3, fun c hc => ?_, sg_add hPG hs⟩
        by_cases e : c = k
        · rw [e, pk_us, pk_us]
        · rw [pk_un e, pk_un e]; exact hPS c (by omega)
      · omega
  refine zi_iload_n O d_Mod_crossing_0 rfl ?_
  refine zi_if_le O 52 d_Mod_crossing_1 (by decide) (fun c1 => ?_) (fun c1 => ?_)
  · exact absurd c1 (nI_nle (by omega) (by omega))
  · refine zi_iload_n O d_Mod_crossing_4 rfl ?_
    refine zi_if_le O 52 d_Mod_crossing_5 (by decide) (fun c5 => ?_) (fun c5 => ?_)
    · exact absurd c5 (nI_nle (by omega) (by omega))
    · refine zi_iload O d_Mod_crossing_8 rfl ?_
      refine zi_if_le O 52 d_Mod_crossing_10 (by decide) (fun c10 => ?_) (fun c10 => ?_)
      · exact absurd c10 (nI_nle (by omega) (by omega))
      · refine zi_iload O d_Mod_crossing_13 rfl ?_
        refine zi_if_le O 52 d_Mod_crossing_15 (by decide) (fun c15 => ?_) (fun c15 => ?_)
        · exact absurd c15 (nI_nle (by omega) (by omega))
        · refine zi_iload_n O d_Mod_crossing_18 rfl ?_
          refine zi_sipushN O 10000 d_Mod_crossing_19 (by decide) ?_
          refine zi_icmp_geN O 52 d_Mod_crossing_22 (by decide) (by omega) (by omega) (fun c22 => ?_) (fun c22 => ?_)
          · omega
          · refine zi_iload_n O d_Mod_crossing_25 rfl ?_
            refine zi_sipushN O 10000 d_Mod_crossing_26 (by decide) ?_
            refine zi_icmp_geN O 52 d_Mod_crossing_29 (by decide) (by omega) (by omega) (fun c29 => ?_) (fun c29 => ?_)
            · omega
            · refine zi_iload O d_Mod_crossing_32 rfl ?_
              refine zi_sipushN O 10000 d_Mod_crossing_34 (by decide) ?_
              refine zi_icmp_geN O 52 d_Mod_crossing_37 (by decide) (by omega) (by omega) (fun c37 => ?_) (fun c37 => ?_)
              · omega
              · refine zi_iload O d_Mod_crossing_40 rfl ?_
                refine zi_sipushN O 10000 d_Mod_crossing_42 (by decide) ?_
                refine zi_icmp_geN O 52 d_Mod_crossing_45 (by decide) (by omega) (by omega) (fun c45 => ?_) (fun c45 => ?_)
                · omega
                · refine zi_iconstN O 1 d_Mod_crossing_48 (by decide) ?_
                  refine zi_goto O 53 d_Mod_crossing_49 (by decide) ?_
                  refine zi_istore (ls' := _ :: _ :: _ :: _ :: _ :: _ :: some _ :: _) O d_Mod_crossing_53 rfl (by decide) rfl ?_
                  refine zi_iload_n O d_Mod_crossing_55 rfl ?_
                  refine zi_iconstN O 1 d_Mod_crossing_56 (by decide) ?_
                  refine zi_icmp_eq O 65 d_Mod_crossing_57 (by decide) (fun c57 => ?_) (fun c57 => ?_)
                  · exact fin
                  · refine zi_iload_n O d_Mod_crossing_60 rfl ?_
                    refine zi_iconst (v := -1) O d_Mod_crossing_61 (by decide) ?_
                    refine zi_icmp_ne O 79 d_Mod_crossing_62 (by decide) (fun c62 => ?_) (fun c62 => ?_)
                    · exfalso
                      rcases hs with z | z
                      · exact c57 z
                      · exact c62 z
                    · exact fin
end
theorem fN_in {el : Nat → Nat} (a : Nat) : ∀ i, ∀ l, a < l → l < fN el a i → ∃ e, e < i ∧ el e = l
  | 0, l, h1, h2 => by rw [fN] at h2; omega
  | i + 1, l, h1, h2 => by
    rw [fN] at h2
    by_cases c : el i = fN el a i
    · rw [if_pos c] at h2
      by_cases e : l = fN el a i
      · exact ⟨i, by omega, by rw [c, e]⟩
      · obtain ⟨e, e1, e2⟩ := fN_in (el := el) a i l h1 (by omega)
        exact ⟨e, by omega, e2⟩
    · rw [if_neg c] at h2
      obtain ⟨e, e1, e2⟩ := fN_in (el := el) a i l h1 h2
      exact ⟨e, by omega, e2⟩
/-- the free labels in their order -/
def fsq (el : Nat → Nat) (m : Nat) : Nat → Nat
  | 0 => 0
  | j + 1 => fN el (fsq el m j) m
theorem fsq_le (el : Nat → Nat) (m : Nat) : ∀ j, fsq el m j ≤ j * (m + 1)
  | 0 => Nat.zero_le _
  | j + 1 => by
    have h1 := fsq_le el m j
    have h2 := (fN_le el (fsq el m j) m).2
    rw [fsq, Nat.succ_mul]
    omega
section
variable {put n oN labs closed faces sides : Nat} {wrong ci oC : Int32} {pS pL S L oS oL row fresh piece comp fof side free arnd : Nat → Int32}
theorem m_Mod_signs (hn : n ≤ 20) : zPu y_Mod_signs b_Mod_signs 3 (some .int) ⟨0, 0, 0, 0⟩ [.ref 0] (mh put wrong pS pL n ci oN oC S L oS oL labs row fresh piece closed faces comp fof sides side free arnd) (.int (sumS S n)) := by
  refine zMet_of (plainFor_of_name (by decide +kernel)) rfl (Nat.le_of_ble_eq_true rfl) (fun z1 z2 z3 z4 z5 z6 z7 z8 z9 z10 z11 z12 z13 z14 O hin => ?_)
  refine zi_ls (ls' := [some (.ref 0), none, none]) rfl ?_
  refine zi_iconstN O 0 d_Mod_signs_0 (by decide) ?_
  refine zi_istore_n (ls' := _ :: some _ :: _) O d_Mod_signs_1 rfl (by decide) rfl ?_
  refine zi_iconstN O 0 d_Mod_signs_2 (by decide) ?_
  refine zi_istore_n (ls' := _ :: _ :: some _ :: _) O d_Mod_signs_3 rfl (by decide) rfl ?_
  refine zi_for (fun i => [some (.ref 0), some (.int (sumS S i)), some (.int (nI i))]) (fun _ => (mh put wrong pS pL n ci oN oC S L oS oL labs row fresh piece closed faces comp fof sides side free arnd)) 0 n (by omega) rfl rfl (fun i _ hi ih => ?_) ?_
  · refine zi_iload_n O d_Mod_signs_4 rfl ?_
    refine zi_aload_n O d_Mod_signs_5 rfl ?_
    refine zi_get O f_Mod_59 d_Mod_signs_6 rfl rfl ?_
    refine zi_icmp_geN O 27 d_Mod_signs_9 (by decide) (by omega) (by omega) (fun c9 => ?_) (fun c9 => ?_)
    · omega
    · refine zi_iload_n O d_Mod_signs_12 rfl ?_
      refine zi_aload_n O d_Mod_signs_13 rfl ?_
      refine zi_get O f_Mod_20 d_Mod_signs_14 rfl rfl ?_
      refine zi_iload_n O d_Mod_signs_17 rfl ?_
      refine zi_iald O d_Mod_signs_18 rfl rfl (by omega) (Nat.le_of_ble_eq_true rfl) ?_
      first | refine zi_iaddN O d_Mod_signs_19 ?_ | refine zi_iadd O d_Mod_signs_19 ?_
      refine zi_istore_n (ls' := _ :: some _ :: _) O d_Mod_signs_20 rfl (by decide) rfl ?_
      refine zi_iincN (ls' := _ :: _ :: some _ :: _) O 1 d_Mod_signs_21 rfl (by decide) rfl (by decide) rfl ?_
      refine zi_goto O 4 d_Mod_signs_24 (by decide) ?_
      exact ih
  · refine zi_iload_n O d_Mod_signs_4 rfl ?_
    refine zi_aload_n O d_Mod_signs_5 rfl ?_
    refine zi_get O f_Mod_59 d_Mod_signs_6 rfl rfl ?_
    refine zi_icmp_geN O 27 d_Mod_signs_9 (by decide) (by omega) (by omega) (fun c9 => ?_) (fun c9 => ?_)
    · refine zi_iload_n O d_Mod_signs_27 rfl ?_
      refine zi_iret O d_Mod_signs_28 (Nat.le_of_ble_eq_true rfl) (Nat.le_of_ble_eq_true rfl) (Nat.le_of_ble_eq_true rfl) ?_
      exact ⟨rfl, rfl⟩
    · omega
theorem m_Mod_allFaces {lab el fr to_ at_ : Nat → Nat} (hR : RowOK n L lab) (hG : Sg n S) (h : Ed n lab S el fr to_ at_) : zMet y_Mod_allFaces b_Mod_allFaces 1 (some .int) ⟨4, 0, 0, 110⟩ [.ref 0] (mh put wrong pS pL n ci oN oC S L oS oL labs row fresh piece closed faces comp fof sides side free arnd)
    (fun r h' => r = some (.int (nI (FF (nxD fr to_ at_) (4 * n) (4 * n)).2)) ∧ ∃ (row' fof' : Nat → Int32), h' = (mh put wrong pS pL n ci oN oC S L oS oL (2 * n) row' fresh piece closed ((FF (nxD fr to_ at_) (4 * n) (4 * n)).2) comp fof' sides side free arnd)) := by
  refine zMet_of (plainFor_of_name (by decide +kernel)) rfl (Nat.le_of_ble_eq_true rfl) (fun z1 z2 z3 z4 z5 z6 z7 z8 z9 z10 z11 z12 z13 z14 O hin => ?_)
  refine zi_ls (ls' := [some (.ref 0)]) rfl ?_
  refine zi_aload_n O d_Mod_allFaces_0 rfl ?_
  refine zi_selfV O c_Mod_110 k_Mod_findFaces (m_Mod_findFaces hR hG h) d_Mod_allFaces_1 ⟨(Nat.le_of_ble_eq_true rfl), (Nat.le_of_ble_eq_true rfl)⟩ ⟨(Nat.le_of_ble_eq_true rfl), (Nat.le_of_ble_eq_true rfl)⟩ rfl rfl (Nat.le_of_ble_eq_true rfl) rfl rfl rfl (Nat.le_of_ble_eq_true rfl) rfl (fun r h' hq hl => ?_)
  obtain ⟨rfl, row', fof', rfl, -, -⟩ := hq
  refine zi_st (st' := []) rfl ?_
  refine zi_aload_n O d_Mod_allFaces_4 rfl ?_
  refine zi_get O f_Mod_89 d_Mod_allFaces_5 rfl rfl ?_
  refine zi_iret O d_Mod_allFaces_8 (Nat.le_of_ble_eq_true rfl) (Nat.le_of_ble_eq_true rfl) (Nat.le_of_ble_eq_true rfl) ?_
  exact ⟨rfl, row', fof', rfl⟩
theorem m_Mod_allComponents {lab el fr to_ at_ : Nat → Nat} (hR : RowOK n L lab) (hG : Sg n S) (h : Ed n lab S el fr to_ at_) : zMet y_Mod_allComponents b_Mod_allComponents 1 (some .int) ⟨4, 0, 0, 110⟩ [.ref 0] (mh put wrong pS pL n ci oN oC S L oS oL labs row fresh piece closed faces comp fof sides side free arnd)
    (fun r h' => r = some (.int (nI (FF (nxE to_ at_) (2 * n) (2 * n)).2 + ci)) ∧ ∃ (row' comp' : Nat → Int32), h' = (mh put wrong pS pL n ci oN oC S L oS oL (2 * n) row' fresh piece ((FF (nxE to_ at_) (2 * n) (2 * n)).2) faces comp' fof sides side free arnd)) := by
  refine zMet_of (plainFor_of_name (by decide +kernel)) rfl (Nat.le_of_ble_eq_true rfl) (fun z1 z2 z3 z4 z5 z6 z7 z8 z9 z10 z11 z12 z13 z14 O hin => ?_)
  refine zi_ls (ls' := [some (.ref 0)]) rfl ?_
  refine zi_aload_n O d_Mod_allComponents_0 rfl ?_
  refine zi_selfV O c_Mod_133 k_Mod_components (m_Mod_components hR hG h) d_Mod_allComponents_1 ⟨(Nat.le_of_ble_eq_true rfl), (Nat.le_of_ble_eq_true rfl)⟩ ⟨(Nat.le_of_ble_eq_true rfl), (Nat.le_of_ble_eq_true rfl)⟩ rfl rfl (Nat.le_of_ble_eq_true rfl) rfl rfl rfl (Nat.le_of_ble_eq_true rfl) rfl (fun r h' hq hl => ?_)
  obtain ⟨rfl, row', comp', rfl, -⟩ := hq
  refine zi_st (st' := []) rfl ?_
  refine zi_aload_n O d_Mod_allComponents_4 rfl ?_
  refine zi_get O f_Mod_77 d_Mod_allComponents_5 rfl rfl ?_
  refine zi_aload_n O d_Mod_allComponents_8 rfl ?_
  refine zi_get O f_Mod_104 d_Mod_allComponents_9 rfl rfl ?_
  first | refine zi_iaddN O d_Mod_allComponents_12 ?_ | refine zi_iadd O d_Mod_allComponents_12 ?_
  refine zi_iret O d_Mod_allComponents_13 (Nat.le_of_ble_eq_true rfl) (Nat.le_of_ble_eq_true rfl) (Nat.le_of_ble_eq_true rfl) ?_
  exact ⟨rfl, row', comp', rfl⟩
set_option maxHeartbeats 1000000 in
theorem m_Mod_findFree {lab el fr to_ at_ : Nat → Nat} (hR : RowOK n L lab) (h : Ed n lab S el fr to_ at_) : zMet y_Mod_findFree b_Mod_findFree 5 none ⟨1, 0, 0, 24⟩ [.ref 0] (mh put wrong pS pL n ci oN oC S L oS oL labs row fresh piece closed faces comp fof sides side free arnd)
    (fun r h' => r = none ∧ ∃ (row' free' : Nat → Int32), h' = (mh put wrong pS pL n ci oN oC S L oS oL (2 * n) row' fresh piece closed faces comp fof sides side free' arnd) ∧ (∀ i, i < 2 * n → row' i = nI (el i)) ∧ ∀ j, j < 4 → free' j = nI (fsq el (2 * n) (j + 1))) := by
  have hn := hR.1
  refine zMet_of (plainFor_of_name (by decide +kernel)) rfl (Nat.le_of_ble_eq_true rfl) (fun z1 z2 z3 z4 z5 z6 z7 z8 z9 z10 z11 z12 z13 z14 O hin => ?_)
  refine zi_ls (ls' := [some (.ref 0), none, none, none, none]) rfl ?_
  refine zi_aload_n O d_Mod_findFree_0 rfl ?_
  refine zi_selfV O c_Mod_80 k_Mod_sort (m_Mod_sort lab hR) d_Mod_findFree_1 ⟨(Nat.le_of_ble_eq_true rfl), (Nat.le_of_ble_eq_true rfl)⟩ ⟨(Nat.le_of_ble_eq_true rfl), (Nat.le_of_ble_eq_true rfl)⟩ rfl rfl (Nat.le_of_ble_eq_true rfl) rfl rfl rfl (Nat.le_of_ble_eq_true rfl) rfl (fun r h' hq hl => ?_)
  obtain ⟨rfl, m, row', rw_, rfl, hrow, hsrt⟩ := hq
  obtain ⟨rfl, hrw⟩ := srt_ed h hsrt
  have hrow2 : ∀ i, i < 2 * n → row' i = nI (el i) := fun i hi => by rw [hrow i hi, hrw i hi]
  refine zi_st (st' := []) rfl ?_
  refine zi_iconstN O 0 d_Mod_findFree_4 (by decide) ?_
  refine zi_istore_n (ls' := _ :: some _ :: _) O d_Mod_findFree_5 rfl (by decide) rfl ?_
  refine zi_iconstN O 1 d_Mod_findFree_6 (by decide) ?_
  refine zi_istore_n (ls' := _ :: _ :: some _ :: _) O d_Mod_findFree_7 rfl (by decide) rfl ?_
  refine zi_loop (σ := Nat × Nat × (Nat → Int32)) (fun x => [some (.ref 0), some (.int (nI x.1)), some (.int (nI x.2.1)), none, none]) (fun x => (mh put wrong pS pL n ci oN oC S L oS oL (2 * n) row' fresh piece closed faces comp fof sides side (x.2.2) arnd)) (fun x => x.1 ≤ 4 ∧ fsq el (2 * n) x.1 < x.2.1 ∧ x.2.1 ≤ fsq el (2 * n) (x.1 + 1) ∧ ∀ j, j < x.1 → x.2.2 j = nI (fsq el (2 * n) (j + 1))) (fun x => 1000 - x.2.1) (0, 1, free) rfl rfl ⟨Nat.zero_le _, Nat.zero_lt_one, (fN_le el 0 (2 * n)).1, fun j hj => absurd hj (Nat.not_lt_zero j)⟩ ?_
  rintro ⟨c, l, A⟩ ⟨hc, h1, h2, hA⟩ ih
  dsimp only at hc h1 h2 hA ih ⊢
  have hb := fsq_le el (2 * n) (c + 1)
  have hb2 : (c + 1) * (2 * n + 1) ≤ 5 * 41 := Nat.mul_le_mul (by omega) (by omega)
  refine zi_iload_n O d_Mod_findFree_8 rfl ?_
  refine zi_iconstN O 4 d_Mod_findFree_9 (by decide) ?_
  refine zi_icmp_geN O 74 d_Mod_findFree_10 (by decide) (by omega) (by omega) (fun c10 => ?_) (fun c10 => ?_)
  · refine zi_vret O d_Mod_findFree_74 (Nat.le_of_ble_eq_true rfl) (Nat.le_of_ble_eq_true rfl) (Nat.le_of_ble_eq_true rfl) ?_
    have : c = 4 := by omega
    subst this
    exact ⟨rfl, row', A, rfl, hrow2, hA⟩
  · refine zi_iconstN O 0 d_Mod_findFree_13 (by decide) ?_
    refine zi_istore_n (ls' := _ :: _ :: _ :: some _ :: _) O d_Mod_findFree_14 rfl (by decide) rfl ?_
    refine zi_iconstN O 0 d_Mod_findFree_15 (by decide) ?_
    refine zi_istore (ls' := _ :: _ :: _ :: _ :: some _ :: _) O d_Mod_findFree_16 rfl (by decide) rfl ?_
    refine zi_for (fun i => [some (.ref 0), some (.int (nI c)), some (.int (nI l)), some (.int (nI (hs el l i))), some (.int (nI i))]) (fun _ => (mh put wrong pS pL n ci oN oC S L oS oL (2 * n) row' fresh piece closed faces comp fof sides side A arnd)) 0 (2 * n) (by omega) rfl rfl (fun i _ hi ih2 => ?_) ?_
    · have hbi := el_lt hR h hi
      rw [hs] at ih2
      refine zi_iload O d_Mod_findFree_18 rfl ?_
      refine zi_aload_n O d_Mod_findFree_20 rfl ?_
      refine zi_get O f_Mod_74 d_Mod_findFree_21 rfl rfl ?_
      refine zi_icmp_geN O 54 d_Mod_findFree_24 (by decide) (by omega) (by omega) (fun c24 => ?_) (fun c24 => ?_)
      · omega
      · rcases hs_01 el l i with ⟨g1, g2⟩ | ⟨g1, g2⟩
        · rw [g1, if_neg (by omega)] at ih2
          rw [g1]
          refine zi_iload_n O d_Mod_findFree_27 rfl ?_
          refine zi_if_ne O 42 d_Mod_findFree_28 (by decide) (fun c28 => ?_) (fun c28 => ?_)
          · exact absurd rfl c28
          · refine zi_aload_n O d_Mod_findFree_31 rfl ?_
            refine zi_get O f_Mod_32 d_Mod_findFree_32 rfl rfl ?_
            refine zi_iload O d_Mod_findFree_35 rfl ?_
            refine zi_iald O d_Mod_findFree_37 rfl rfl (by omega) (Nat.le_of_ble_eq_true rfl) ?_
            rw [hrow2 i hi]
            refine zi_iload_n O d_Mod_findFree_38 rfl ?_
            refine zi_icmp_neN O 46 d_Mod_findFree_39 (by decide) (by omega) (by omega) (fun c39 => ?_) (fun c39 => ?_)
            · rw [if_neg c39] at ih2
              refine zi_iconstN O 0 d_Mod_findFree_46 (by decide) ?_
              refine zi_istore_n (ls' := _ :: _ :: _ :: some _ :: _) O d_Mod_findFree_47 rfl (by decide) rfl ?_
              refine zi_iincN (ls' := _ :: _ :: _ :: _ :: some _ :: _) O 1 d_Mod_findFree_48 rfl (by decide) rfl (by decide) rfl ?_
              refine zi_goto O 18 d_Mod_findFree_51 (by decide) ?_
              exact ih2
            · rw [if_pos c39] at ih2
              refine zi_iconstN O 1 d_Mod_findFree_42 (by decide) ?_
              refine zi_goto O 47 d_Mod_findFree_43 (by decide) ?_
              refine zi_istore_n (ls' := _ :: _ :: _ :: some _ :: _) O d_Mod_findFree_47 rfl (by decide) rfl ?_
              refine zi_iincN (ls' := _ :: _ :: _ :: _ :: some _ :: _) O 1 d_Mod_findFree_48 rfl (by decide) rfl (by decide) rfl ?_
              refine zi_goto O 18 d_Mod_findFree_51 (by decide) ?_
              exact ih2
        · rw [g1, if_pos rfl] at ih2
          rw [g1]
          refine zi_iload_n O d_Mod_findFree_27 rfl ?_
          refine zi_if_ne O 42 d_Mod_findFree_28 (by decide) (fun c28 => ?_) (fun c28 => ?_)
          · refine zi_iconstN O 1 d_Mod_findFree_42 (by decide) ?_
            refine zi_goto O 47 d_Mod_findFree_43 (by decide) ?_
            refine zi_istore_n (ls' := _ :: _ :: _ :: some _ :: _) O d_Mod_findFree_47 rfl (by decide) rfl ?_
            refine zi_iincN (ls' := _ :: _ :: _ :: _ :: some _ :: _) O 1 d_Mod_findFree_48 rfl (by decide) rfl (by decide) rfl ?_
            refine zi_goto O 18 d_Mod_findFree_51 (by decide) ?_
            exact ih2
          · exact absurd c28 (by decide)
    · refine zi_iload O d_Mod_findFree_18 rfl ?_
      refine zi_aload_n O d_Mod_findFree_20 rfl ?_
      refine zi_get O f_Mod_74 d_Mod_findFree_21 rfl rfl ?_
      refine zi_icmp_geN O 54 d_Mod_findFree_24 (by decide) (by omega) (by omega) (fun c24 => ?_) (fun c24 => ?_)
      · rcases hs_01 el l (2 * n) with ⟨g1, g2⟩ | ⟨g1, e, e1, e2⟩
        · rw [g1]
          have hl : l = fsq el (2 * n) (c + 1) := by
            rcases Nat.lt_or_ge l (fsq el (2 * n) (c + 1)) with z | z
            · obtain ⟨e, e1, e2⟩ := fN_in (fsq el (2 * n) c) (2 * n) l h1 z
              exact absurd e2 (g2 e e1)
            · omega
          refine zi_iload_n O d_Mod_findFree_54 rfl ?_
          refine zi_if_ne O 68 d_Mod_findFree_55 (by decide) (fun c55 => ?_) (fun c55 => ?_)
          · exact absurd rfl c55
          · refine zi_aload_n O d_Mod_findFree_58 rfl ?_
            refine zi_get O f_Mod_50 d_Mod_findFree_59 rfl rfl ?_
            refine zi_iload_n O d_Mod_findFree_62 rfl ?_
            refine zi_iload_n O d_Mod_findFree_63 rfl ?_
            refine zi_iast O d_Mod_findFree_64 rfl rfl (by omega) (Nat.le_of_ble_eq_true rfl) (by dsimp only [List.set]) ?_
            refine zi_iincN (ls' := _ :: some _ :: _) O 1 d_Mod_findFree_65 rfl (by decide) rfl (by decide) rfl ?_
            refine zi_iincN (ls' := _ :: _ :: some _ :: _) O 1 d_Mod_findFree_68 rfl (by decide) rfl (by decide) rfl ?_
            refine zi_goto O 8 d_Mod_findFree_71 (by decide) ?_
            refine zi_no 3 (ls' := _ :: _ :: _ :: none :: _) rfl ?_
            refine zi_no 4 (ls' := _ :: _ :: _ :: _ :: none :: _) rfl ?_
            refine ih (c + 1, l + 1, upd A c (nI l)) ⟨by dsimp only; omega, by dsimp only; omega, ?_, fun j hj => ?_⟩ (by dsimp only; omega)
            · dsimp only
              have := (fN_le el (fsq el (2 * n) (c + 1)) (2 * n)).1
              rw [fsq]
              omega
            · dsimp only at hj ⊢
              by_cases e : j = c
              · rw [e, pk_us, ← hl]
              · rw [pk_un e]; exact hA j (by omega)
        · rw [g1]
          have hl : l ≠ fsq el (2 * n) (c + 1) := fun z => fN_fresh (fun i j hij hj => h.2.1 i j hij hj) (fsq el (2 * n) c) (2 * n) (Nat.le_refl _) e e1 (e2.trans z)
          refine zi_iload_n O d_Mod_findFree_54 rfl ?_
          refine zi_if_ne O 68 d_Mod_findFree_55 (by decide) (fun c55 => ?_) (fun c55 => ?_)
          · refine zi_iincN (ls' := _ :: _ :: some _ :: _) O 1 d_Mod_findFree_68 rfl (by decide) rfl (by decide) rfl ?_
            refine zi_goto O 8 d_Mod_findFree_71 (by decide) ?_
            refine zi_no 3 (ls' := _ :: _ :: _ :: none :: _) rfl ?_
            refine zi_no 4 (ls' := _ :: _ :: _ :: _ :: none :: _) rfl ?_
            exact ih (c, l + 1, A) ⟨by dsimp only; omega, by dsimp only; omega, by dsimp only; omega, hA⟩ (by dsimp only; omega)
          · exact absurd c55 (by decide)
      · omega
theorem m_Mod_leastFree {lab el fr to_ at_ : Nat → Nat} (hR : RowOK n L lab) (h : Ed n lab S el fr to_ at_) : zMet y_Mod_leastFree b_Mod_leastFree 1 (some .int) ⟨2, 0, 0, 50⟩ [.ref 0] (mh put wrong pS pL n ci oN oC S L oS oL labs row fresh piece closed faces comp fof sides side free arnd)
    (fun r h' => r = some (.int (nI (fN el 0 (2 * n)))) ∧ ∃ (row' free' : Nat → Int32), h' = (mh put wrong pS pL n ci oN oC S L oS oL (2 * n) row' fresh piece closed faces comp fof sides side free' arnd)) := by
  refine zMet_of (plainFor_of_name (by decide +kernel)) rfl (Nat.le_of_ble_eq_true rfl) (fun z1 z2 z3 z4 z5 z6 z7 z8 z9 z10 z11 z12 z13 z14 O hin => ?_)
  refine zi_ls (ls' := [some (.ref 0)]) rfl ?_
  refine zi_aload_n O d_Mod_leastFree_0 rfl ?_
  refine zi_selfV O c_Mod_136 k_Mod_findFree (m_Mod_findFree hR h) d_Mod_leastFree_1 ⟨(Nat.le_of_ble_eq_true rfl), (Nat.le_of_ble_eq_true rfl)⟩ ⟨(Nat.le_of_ble_eq_true rfl), (Nat.le_of_ble_eq_true rfl)⟩ rfl rfl (Nat.le_of_ble_eq_true rfl) rfl rfl rfl (Nat.le_of_ble_eq_true rfl) rfl (fun r h' hq hl => ?_)
  obtain ⟨rfl, row', free', rfl, -, hf⟩ := hq
  refine zi_st (st' := []) rfl ?_
  refine zi_aload_n O d_Mod_leastFree_4 rfl ?_
  refine zi_get O f_Mod_50 d_Mod_leastFree_5 rfl rfl ?_
  refine zi_iconstN O 0 d_Mod_leastFree_8 (by decide) ?_
  refine zi_iald O d_Mod_leastFree_9 rfl rfl (by omega) (Nat.le_of_ble_eq_true rfl) ?_
  rw [hf 0 (by decide)]
  refine zi_iret O d_Mod_leastFree_10 (Nat.le_of_ble_eq_true rfl) (Nat.le_of_ble_eq_true rfl) (Nat.le_of_ble_eq_true rfl) ?_
  exact ⟨rfl, row', free', rfl⟩
end
theorem sumS_same {S S' : Nat → Int32} : ∀ {n : Nat}, (∀ c, c < n → S' c = S c) → sumS S' n = sumS S n
  | 0, _ => rfl
  | n + 1, h => by rw [sumS, sumS, sumS_same (n := n) (fun c hc => h c (by omega)), h n (by omega)]
section
variable {k n : Nat} {plab lab : Nat → Nat} {T S0 : Nat → Int32} {ci : Int32} {h : List zE} {el fr to_ at_ oc : Nat → Nat}
set_option maxHeartbeats 1000000 in
theorem m_Mod_many (hM : Mdl k plab T n lab S0 ci h) (hE : Ed n lab S0 el fr to_ at_) (hP : PcE (2 * n) n fr to_ oc) (x : Int32) : zMet y_Mod_many b_Mod_many 2 (some .int) ⟨5, 0, 0, 140⟩ [.ref 0, .int x] h
    (fun r h' => r = some (.int (mny n S0 ci (FF (nxD fr to_ at_) (4 * n) (4 * n)).2 (FF (nxE to_ at_) (2 * n) (2 * n)).2 (rc oc n) k (fN el 0 (2 * n)) x)) ∧ Mdl k plab T n lab S0 ci h') := by
  obtain ⟨wrong, pS, pL, oN, oC, S, L, oS, oL, labs, row, fresh, piece, closed, faces, comp, fof, sides, side, free, arnd, rfl, hR, hS, hG, hPR, hPS, hPG⟩ := hM
  have hn := hR.1
  have hGS := sg_same hG hS
  have hE' := ed_same hE (fun _ _ => rfl) hS
  refine zMet_of (plainFor_of_name (by decide +kernel)) rfl (Nat.le_of_ble_eq_true rfl) (fun z1 z2 z3 z4 z5 z6 z7 z8 z9 z10 z11 z12 z13 z14 O hin => ?_)
  refine zi_ls (ls' := [some (.ref 0), some (.int x)]) rfl ?_
  refine zi_iload_n O d_Mod_many_0 rfl ?_
  by_cases c0 : x = nI 0
  · subst c0
    refine zi_tableIn O 48 d_Mod_many_1 (by decide) (by decide) rfl (by decide) ?_
    refine zi_aload_n O d_Mod_many_48 rfl ?_
    refine zi_get O f_Mod_59 d_Mod_many_49 rfl rfl ?_
    refine zi_iret O d_Mod_many_52 (Nat.le_of_ble_eq_true rfl) (Nat.le_of_ble_eq_true rfl) (Nat.le_of_ble_eq_true rfl) ?_
    exact ⟨rfl, _, _, _, _, _, _, _, _, _, _, _, _, _, _, _, _, _, _, _, _, _, rfl, hR, hS, hG, hPR, hPS, hPG⟩
  by_cases c1 : x = nI 1
  · subst c1
    refine zi_tableIn O 53 d_Mod_many_1 (by decide) (by decide) rfl (by decide) ?_
    refine zi_aload_n O d_Mod_many_53 rfl ?_
    refine zi_get O f_Mod_104 d_Mod_many_54 rfl rfl ?_
    refine zi_iret O d_Mod_many_57 (Nat.le_of_ble_eq_true rfl) (Nat.le_of_ble_eq_true rfl) (Nat.le_of_ble_eq_true rfl) ?_
    exact ⟨rfl, _, _, _, _, _, _, _, _, _, _, _, _, _, _, _, _, _, _, _, _, _, rfl, hR, hS, hG, hPR, hPS, hPG⟩
  by_cases c2 : x = nI 2
  · subst c2
    refine zi_tableIn O 58 d_Mod_many_1 (by decide) (by decide) rfl (by decide) ?_
    refine zi_aload_n O d_Mod_many_58 rfl ?_
    refine zi_selfP O c_Mod_139 k_Mod_signs (m_Mod_signs hn) d_Mod_many_59 ⟨(Nat.le_of_ble_eq_true rfl), (Nat.le_of_ble_eq_true rfl)⟩ ⟨(Nat.le_of_ble_eq_true rfl), (Nat.le_of_ble_eq_true rfl)⟩ rfl rfl (Nat.le_of_ble_eq_true rfl) rfl rfl rfl (Nat.le_of_ble_eq_true rfl) rfl ?_
    rw [sumS_same hS]
    refine zi_iret O d_Mod_many_62 (Nat.le_of_ble_eq_true rfl) (Nat.le_of_ble_eq_true rfl) (Nat.le_of_ble_eq_true rfl) ?_
    exact ⟨rfl, _, _, _, _, _, _, _, _, _, _, _, _, _, _, _, _, _, _, _, _, _, rfl, hR, hS, hG, hPR, hPS, hPG⟩
  by_cases c3 : x = nI 3
  · subst c3
    refine zi_tableIn O 63 d_Mod_many_1 (by decide) (by decide) rfl (by decide) ?_
    refine zi_aload_n O d_Mod_many_63 rfl ?_
    refine zi_selfV O c_Mod_142 k_Mod_allFaces (m_Mod_allFaces hR hGS hE') d_Mod_many_64 ⟨(Nat.le_of_ble_eq_true rfl), (Nat.le_of_ble_eq_true rfl)⟩ ⟨(Nat.le_of_ble_eq_true rfl), (Nat.le_of_ble_eq_true rfl)⟩ rfl rfl (Nat.le_of_ble_eq_true rfl) rfl rfl rfl (Nat.le_of_ble_eq_true rfl) rfl (fun r h' hq hl => ?_)
    obtain ⟨rfl, row', fof', rfl⟩ := hq
    refine zi_st (st' := [.int (nI (FF (nxD fr to_ at_) (4 * n) (4 * n)).2)]) rfl ?_
    refine zi_iret O d_Mod_many_67 (Nat.le_of_ble_eq_true rfl) (Nat.le_of_ble_eq_true rfl) (Nat.le_of_ble_eq_true rfl) ?_
    exact ⟨rfl, _, _, _, _, _, _, _, _, _, _, _, _, _, _, _, _, _, _, _, _, _, rfl, hR, hS, hG, hPR, hPS, hPG⟩
  by_cases c4 : x = nI 4
  · subst c4
    refine zi_tableIn O 68 d_Mod_many_1 (by decide) (by decide) rfl (by decide) ?_
    refine zi_aload_n O d_Mod_many_68 rfl ?_
    refine zi_selfV O c_Mod_145 k_Mod_allComponents (m_Mod_allComponents hR hGS hE') d_Mod_many_69 ⟨(Nat.le_of_ble_eq_true rfl), (Nat.le_of_ble_eq_true rfl)⟩ ⟨(Nat.le_of_ble_eq_true rfl), (Nat.le_of_ble_eq_true rfl)⟩ rfl rfl (Nat.le_of_ble_eq_true rfl) rfl rfl rfl (Nat.le_of_ble_eq_true rfl) rfl (fun r h' hq hl => ?_)
    obtain ⟨rfl, row', comp', rfl⟩ := hq
    refine zi_st (st' := [.int (nI (FF (nxE to_ at_) (2 * n) (2 * n)).2 + ci)]) rfl ?_
    refine zi_iret O d_Mod_many_72 (Nat.le_of_ble_eq_true rfl) (Nat.le_of_ble_eq_true rfl) (Nat.le_of_ble_eq_true rfl) ?_
    exact ⟨rfl, _, _, _, _, _, _, _, _, _, _, _, _, _, _, _, _, _, _, _, _, _, rfl, hR, hS, hG, hPR, hPS, hPG⟩
  by_cases c5 : x = nI 5
  · subst c5
    refine zi_tableIn O 73 d_Mod_many_1 (by decide) (by decide) rfl (by decide) ?_
    refine zi_aload_n O d_Mod_many_73 rfl ?_
    refine zi_selfV O c_Mod_148 k_Mod_pieces (m_Mod_pieces hR hE' hP) d_Mod_many_74 ⟨(Nat.le_of_ble_eq_true rfl), (Nat.le_of_ble_eq_true rfl)⟩ ⟨(Nat.le_of_ble_eq_true rfl), (Nat.le_of_ble_eq_true rfl)⟩ rfl rfl (Nat.le_of_ble_eq_true rfl) rfl rfl rfl (Nat.le_of_ble_eq_true rfl) rfl (fun r h' hq hl => ?_)
    obtain ⟨rfl, piece', rfl⟩ := hq
    refine zi_st (st' := [.int (nI (rc oc n))]) rfl ?_
    refine zi_aload_n O d_Mod_many_77 rfl ?_
    refine zi_get O f_Mod_104 d_Mod_many_78 rfl rfl ?_
    first | refine zi_iaddN O d_Mod_many_81 ?_ | refine zi_iadd O d_Mod_many_81 ?_
    refine zi_iret O d_Mod_many_82 (Nat.le_of_ble_eq_true rfl) (Nat.le_of_ble_eq_true rfl) (Nat.le_of_ble_eq_true rfl) ?_
    exact ⟨rfl, _, _, _, _, _, _, _, _, _, _, _, _, _, _, _, _, _, _, _, _, _, rfl, hR, hS, hG, hPR, hPS, hPG⟩
  by_cases c6 : x = nI 6
  · subst c6
    refine zi_tableIn O 83 d_Mod_many_1 (by decide) (by decide) rfl (by decide) ?_
    refine zi_aload_n O d_Mod_many_83 rfl ?_
    refine zi_get O f_Mod_98 d_Mod_many_84 rfl rfl ?_
    refine zi_iret O d_Mod_many_87 (Nat.le_of_ble_eq_true rfl) (Nat.le_of_ble_eq_true rfl) (Nat.le_of_ble_eq_true rfl) ?_
    exact ⟨rfl, _, _, _, _, _, _, _, _, _, _, _, _, _, _, _, _, _, _, _, _, _, rfl, hR, hS, hG, hPR, hPS, hPG⟩
  by_cases c7 : x = nI 7
  · subst c7
    refine zi_tableIn O 88 d_Mod_many_1 (by decide) (by decide) rfl (by decide) ?_
    refine zi_aload_n O d_Mod_many_88 rfl ?_
    refine zi_selfV O c_Mod_151 k_Mod_leastFree (m_Mod_leastFree hR hE') d_Mod_many_89 ⟨(Nat.le_of_ble_eq_true rfl), (Nat.le_of_ble_eq_true rfl)⟩ ⟨(Nat.le_of_ble_eq_true rfl), (Nat.le_of_ble_eq_true rfl)⟩ rfl rfl (Nat.le_of_ble_eq_true rfl) rfl rfl rfl (Nat.le_of_ble_eq_true rfl) rfl (fun r h' hq hl => ?_)
    obtain ⟨rfl, row', free', rfl⟩ := hq
    refine zi_st (st' := [.int (nI (fN el 0 (2 * n)))]) rfl ?_
    refine zi_iret O d_Mod_many_92 (Nat.le_of_ble_eq_true rfl) (Nat.le_of_ble_eq_true rfl) (Nat.le_of_ble_eq_true rfl) ?_
    exact ⟨rfl, _, _, _, _, _, _, _, _, _, _, _, _, _, _, _, _, _, _, _, _, _, rfl, hR, hS, hG, hPR, hPS, hPG⟩
  refine zi_tableOut O 93 d_Mod_many_1 (out8 (fun j hj z => ?_)) (by decide) ?_
  · rcases (by omega : j = 0 ∨ j = 1 ∨ j = 2 ∨ j = 3 ∨ j = 4 ∨ j = 5 ∨ j = 6 ∨ j = 7) with rfl | rfl | rfl | rfl | rfl | rfl | rfl | rfl
    · exact c0 z
    · exact c1 z
    · exact c2 z
    · exact c3 z
    · exact c4 z
    · exact c5 z
    · exact c6 z
    · exact c7 z
  · refine zi_sipush (v := -1000) O d_Mod_many_93 (by decide) ?_
    refine zi_iret O d_Mod_many_96 (Nat.le_of_ble_eq_true rfl) (Nat.le_of_ble_eq_true rfl) (Nat.le_of_ble_eq_true rfl) ?_
    exact ⟨by rw [mny, if_neg c0, if_neg c1, if_neg c2, if_neg c3, if_neg c4, if_neg c5, if_neg c6, if_neg c7], _, _, _, _, _, _, _, _, _, _, _, _, _, _, _, _, _, _, _, _, _, rfl, hR, hS, hG, hPR, hPS, hPG⟩
theorem m_Mod_look (hM : Mdl k plab T n lab S0 ci h) (j w : Nat) (hj : j < n) (hw : w ≤ 4) : zPu y_Mod_look b_Mod_look 3 (some .int) ⟨0, 0, 0, 0⟩ [.ref 0, .int (nI j), .int (nI w)] h (.int (if w = 4 then S0 j else nI (lab (4 * j + w)))) := by
  obtain ⟨wrong, pS, pL, oN, oC, S, L, oS, oL, labs, row, fresh, piece, closed, faces, comp, fof, sides, side, free, arnd, rfl, hR, hS, hG, hPR, hPS, hPG⟩ := hM
  have hn := hR.1
  refine zMet_of (plainFor_of_name (by decide +kernel)) rfl (Nat.le_of_ble_eq_true rfl) (fun z1 z2 z3 z4 z5 z6 z7 z8 z9 z10 z11 z12 z13 z14 O hin => ?_)
  refine zi_ls (ls' := [some (.ref 0), some (.int (nI j)), some (.int (nI w))]) rfl ?_
  refine zi_iload_n O d_Mod_look_0 rfl ?_
  refine zi_if_lt O 21 d_Mod_look_1 (by decide) (fun c1 => ?_) (fun c1 => ?_)
  · exact absurd c1 (nI_pos (by omega))
  · refine zi_iload_n O d_Mod_look_4 rfl ?_
    refine zi_aload_n O d_Mod_look_5 rfl ?_
    refine zi_get O f_Mod_59 d_Mod_look_6 rfl rfl ?_
    refine zi_icmp_geN O 21 d_Mod_look_9 (by decide) (by omega) (by omega) (fun c9 => ?_) (fun c9 => ?_)
    · omega
    · refine zi_iload_n O d_Mod_look_12 rfl ?_
      refine zi_if_lt O 21 d_Mod_look_13 (by decide) (fun c13 => ?_) (fun c13 => ?_)
      · exact absurd c13 (nI_pos (by omega))
      · refine zi_iload_n O d_Mod_look_16 rfl ?_
        refine zi_iconstN O 4 d_Mod_look_17 (by decide) ?_
        refine zi_icmp_le O 23 d_Mod_look_18 (by decide) (fun c18 => ?_) (fun c18 => ?_)
        · refine zi_iload_n O d_Mod_look_23 rfl ?_
          refine zi_iconstN O 4 d_Mod_look_24 (by decide) ?_
          refine zi_icmp_neN O 37 d_Mod_look_25 (by decide) (by omega) (by omega) (fun c25 => ?_) (fun c25 => ?_)
          · refine zi_aload_n O d_Mod_look_37 rfl ?_
            refine zi_get O f_Mod_23 d_Mod_look_38 rfl rfl ?_
            refine zi_iconstN O 4 d_Mod_look_41 (by decide) ?_
            refine zi_iload_n O d_Mod_look_42 rfl ?_
            first | refine zi_imulN O d_Mod_look_43 ?_ | refine zi_imul O d_Mod_look_43 ?_
            refine zi_iload_n O d_Mod_look_44 rfl ?_
            first | refine zi_iaddN O d_Mod_look_45 ?_ | refine zi_iadd O d_Mod_look_45 ?_
            refine zi_iald O d_Mod_look_46 rfl rfl (by omega) (Nat.le_of_ble_eq_true rfl) ?_
            rw [(hR.2 _ (by omega)).1]
            refine zi_iret O d_Mod_look_47 (Nat.le_of_ble_eq_true rfl) (Nat.le_of_ble_eq_true rfl) (Nat.le_of_ble_eq_true rfl) ?_
            exact ⟨by rw [if_neg c25], rfl⟩
          · refine zi_aload_n O d_Mod_look_28 rfl ?_
            refine zi_get O f_Mod_20 d_Mod_look_29 rfl rfl ?_
            refine zi_iload_n O d_Mod_look_32 rfl ?_
            refine zi_iald O d_Mod_look_33 rfl rfl (by omega) (Nat.le_of_ble_eq_true rfl) ?_
            rw [hS j hj]
            refine zi_goto O 47 d_Mod_look_34 (by decide) ?_
            refine zi_iret O d_Mod_look_47 (Nat.le_of_ble_eq_true rfl) (Nat.le_of_ble_eq_true rfl) (Nat.le_of_ble_eq_true rfl) ?_
            exact ⟨by rw [if_pos c25], rfl⟩
        · exact absurd (nI_le (by omega) (by omega)) c18
theorem m_Mod_look_no (hM : Mdl k plab T n lab S0 ci h) (x w : Int32) (hx : x < 0 ∨ nI n ≤ x ∨ w < 0 ∨ nI 4 < w) : zPu y_Mod_look b_Mod_look 3 (some .int) ⟨0, 0, 0, 0⟩ [.ref 0, .int x, .int w] h (.int (nI 0)) := by
  obtain ⟨wrong, pS, pL, oN, oC, S, L, oS, oL, labs, row, fresh, piece, closed, faces, comp, fof, sides, side, free, arnd, rfl, hR, hS, hG, hPR, hPS, hPG⟩ := hM
  refine zMet_of (plainFor_of_name (by decide +kernel)) rfl (Nat.le_of_ble_eq_true rfl) (fun z1 z2 z3 z4 z5 z6 z7 z8 z9 z10 z11 z12 z13 z14 O hin => ?_)
  refine zi_ls (ls' := [some (.ref 0), some (.int x), some (.int w)]) rfl ?_
  refine zi_iload_n O d_Mod_look_0 rfl ?_
  refine zi_if_lt O 21 d_Mod_look_1 (by decide) (fun c1 => ?_) (fun c1 => ?_)
  · refine zi_iconstN O 0 d_Mod_look_21 (by decide) ?_
    refine zi_iret O d_Mod_look_22 (Nat.le_of_ble_eq_true rfl) (Nat.le_of_ble_eq_true rfl) (Nat.le_of_ble_eq_true rfl) ?_
    exact ⟨rfl, rfl⟩
  · refine zi_iload_n O d_Mod_look_4 rfl ?_
    refine zi_aload_n O d_Mod_look_5 rfl ?_
    refine zi_get O f_Mod_59 d_Mod_look_6 rfl rfl ?_
    refine zi_icmp_ge O 21 d_Mod_look_9 (by decide) (fun c9 => ?_) (fun c9 => ?_)
    · refine zi_iconstN O 0 d_Mod_look_21 (by decide) ?_
      refine zi_iret O d_Mod_look_22 (Nat.le_of_ble_eq_true rfl) (Nat.le_of_ble_eq_true rfl) (Nat.le_of_ble_eq_true rfl) ?_
      exact ⟨rfl, rfl⟩
    · refine zi_iload_n O d_Mod_look_12 rfl ?_
      refine zi_if_lt O 21 d_Mod_look_13 (by decide) (fun c13 => ?_) (fun c13 => ?_)
      · refine zi_iconstN O 0 d_Mod_look_21 (by decide) ?_
        refine zi_iret O d_Mod_look_22 (Nat.le_of_ble_eq_true rfl) (Nat.le_of_ble_eq_true rfl) (Nat.le_of_ble_eq_true rfl) ?_
        exact ⟨rfl, rfl⟩
      · refine zi_iload_n O d_Mod_look_16 rfl ?_
        refine zi_iconstN O 4 d_Mod_look_17 (by decide) ?_
        refine zi_icmp_le O 23 d_Mod_look_18 (by decide) (fun c18 => ?_) (fun c18 => ?_)
        · exfalso
          rcases hx with z | z | z | z
          · exact c1 z
          · exact c9 z
          · exact c13 z
          · exact Int32.not_le.mpr z c18
        · refine zi_iconstN O 0 d_Mod_look_21 (by decide) ?_
          refine zi_iret O d_Mod_look_22 (Nat.le_of_ble_eq_true rfl) (Nat.le_of_ble_eq_true rfl) (Nat.le_of_ble_eq_true rfl) ?_
          exact ⟨rfl, rfl⟩
end
