/-! The model: undo, slide -/
section
variable {k n : Nat} {plab lab : Nat → Nat} {T S0 : Nat → Int32} {ci : Int32} {h : List zE} {el fr to_ at_ oc : Nat → Nat}
theorem mm_face_no (hM : Mdl k plab T n lab S0 ci h) (hE : Ed n lab S0 el fr to_ at_) (x y : Int32) (hx : ¬ (0 ≤ x ∧ x < nI (FF (nxD fr to_ at_) (4 * n) (4 * n)).2)) : zMet y_Mod_face b_Mod_face 3 (some .int) ⟨5, 0, 0, 140⟩ [.ref 0, .int x, .int y] h (fun r h' => r = some (.int (nI 0)) ∧ Mdl k plab T n lab S0 ci h') := by
  obtain ⟨wrong, pS, pL, oN, oC, S, L, oS, oL, labs, row, fresh, piece, closed, faces, comp, fof, sides, side, free, arnd, rfl, hR, hS, hG, hPR, hPS, hPG⟩ := hM
  refine (m_Mod_face_no hR (sg_same hG hS) (ed_same hE (fun _ _ => rfl) hS) x y hx).mono (fun r h' hq => ?_)
  obtain ⟨rfl, row', fof', rfl⟩ := hq
  exact ⟨rfl, _, _, _, _, _, _, _, _, _, _, _, _, _, _, _, _, _, _, _, _, _, rfl, hR, hS, hG, hPR, hPS, hPG⟩
theorem mm_face (hM : Mdl k plab T n lab S0 ci h) (hE : Ed n lab S0 el fr to_ at_) (j l t : Nat) (y : Int32) (hj : j < (FF (nxD fr to_ at_) (4 * n) (4 * n)).2) (hF : FaceK n (nxD fr to_ at_) j l t) : zMet y_Mod_face b_Mod_face 3 (some .int) ⟨5, 0, 0, 140⟩ [.ref 0, .int (nI j), .int y] h (fun r h' => ((y = -1 ∧ r = some (.int (nI t))) ∨ (¬ y = -1 ∧ (y < 0 ∨ nI t ≤ y) ∧ r = some (.int (nI 0))) ∨ (∃ i, i < t ∧ y = nI i ∧ r = some (.int (if it (nxD fr to_ at_) i l % 2 = 0 then nI (el (it (nxD fr to_ at_) i l / 2)) else -(nI (el (it (nxD fr to_ at_) i l / 2))))))) ∧ Mdl k plab T n lab S0 ci h') := by
  obtain ⟨wrong, pS, pL, oN, oC, S, L, oS, oL, labs, row, fresh, piece, closed, faces, comp, fof, sides, side, free, arnd, rfl, hR, hS, hG, hPR, hPS, hPG⟩ := hM
  refine (m_Mod_face hR (sg_same hG hS) (ed_same hE (fun _ _ => rfl) hS) hj hF y).mono (fun r h' hq => ?_)
  obtain ⟨⟨row', fof', side', rfl⟩, hq⟩ := hq
  exact ⟨hq, _, _, _, _, _, _, _, _, _, _, _, _, _, _, _, _, _, _, _, _, _, rfl, hR, hS, hG, hPR, hPS, hPG⟩
theorem mm_pattern_no (hM : Mdl k plab T n lab S0 ci h) (hE : Ed n lab S0 el fr to_ at_) (x : Int32) (hx : ¬ (0 ≤ x ∧ x < nI (FF (nxD fr to_ at_) (4 * n) (4 * n)).2)) : zMet y_Mod_pattern b_Mod_pattern 7 (some .int) ⟨5, 0, 0, 140⟩ [.ref 0, .int x] h (fun r h' => r = some (.int (-1)) ∧ Mdl k plab T n lab S0 ci h') := by
  obtain ⟨wrong, pS, pL, oN, oC, S, L, oS, oL, labs, row, fresh, piece, closed, faces, comp, fof, sides, side, free, arnd, rfl, hR, hS, hG, hPR, hPS, hPG⟩ := hM
  refine (m_Mod_pattern_no hR (sg_same hG hS) (ed_same hE (fun _ _ => rfl) hS) x hx).mono (fun r h' hq => ?_)
  obtain ⟨rfl, row', fof', rfl⟩ := hq
  exact ⟨rfl, _, _, _, _, _, _, _, _, _, _, _, _, _, _, _, _, _, _, _, _, _, rfl, hR, hS, hG, hPR, hPS, hPG⟩
theorem mm_pattern (hM : Mdl k plab T n lab S0 ci h) (hE : Ed n lab S0 el fr to_ at_) (j l t : Nat) (hj : j < (FF (nxD fr to_ at_) (4 * n) (4 * n)).2) (hF : FaceK n (nxD fr to_ at_) j l t) : zMet y_Mod_pattern b_Mod_pattern 7 (some .int) ⟨5, 0, 0, 140⟩ [.ref 0, .int (nI j)] h (fun r h' => r = some (.int (nI (pat fr to_ (nxD fr to_ at_) l t))) ∧ Mdl k plab T n lab S0 ci h') := by
  obtain ⟨wrong, pS, pL, oN, oC, S, L, oS, oL, labs, row, fresh, piece, closed, faces, comp, fof, sides, side, free, arnd, rfl, hR, hS, hG, hPR, hPS, hPG⟩ := hM
  refine (m_Mod_pattern hR (sg_same hG hS) (ed_same hE (fun _ _ => rfl) hS) hj hF).mono (fun r h' hq => ?_)
  obtain ⟨rfl, row', fof', side', rfl, -⟩ := hq
  exact ⟨rfl, _, _, _, _, _, _, _, _, _, _, _, _, _, _, _, _, _, _, _, _, _, rfl, hR, hS, hG, hPR, hPS, hPG⟩
theorem m_Mod_undo_no (hM : Mdl k plab T n lab S0 ci h) (hE : Ed n lab S0 el fr to_ at_) (x : Int32) (hx : ¬ (0 ≤ x ∧ x < nI (FF (nxD fr to_ at_) (4 * n) (4 * n)).2)) : zMet y_Mod_undo b_Mod_undo 5 (some .int) ⟨6, 0, 0, 170⟩ [.ref 0, .int x] h (fun r h' => r = some (.int (nI 0)) ∧ Mdl k plab T n lab S0 ci h') := by
  obtain ⟨wrong, pS, pL, oN, oC, S, L, oS, oL, labs, row, fresh, piece, closed, faces, comp, fof, sides, side, free, arnd, rfl, hR, hS, hG, hPR, hPS, hPG⟩ := hM
  refine zMet_of (plainFor_of_name (by decide +kernel)) rfl (Nat.le_of_ble_eq_true rfl) (fun z1 z2 z3 z4 z5 z6 z7 z8 z9 z10 z11 z12 z13 z14 O hin => ?_)
  refine zi_ls (ls' := [some (.ref 0), some (.int x), none, none, none]) rfl ?_
  refine zi_aload_n O d_Mod_undo_0 rfl ?_
  refine zi_iload_n O d_Mod_undo_1 rfl ?_
  refine zi_selfV O c_Mod_176 k_Mod_pattern (m_Mod_pattern_no hR (sg_same hG hS) (ed_same hE (fun _ _ => rfl) hS) x hx) d_Mod_undo_2 ⟨(Nat.le_of_ble_eq_true rfl), (Nat.le_of_ble_eq_true rfl)⟩ ⟨(Nat.le_of_ble_eq_true rfl), (Nat.le_of_ble_eq_true rfl)⟩ rfl rfl (Nat.le_of_ble_eq_true rfl) rfl rfl rfl (Nat.le_of_ble_eq_true rfl) rfl (fun r h' hq hl => ?_)
  obtain ⟨rfl, row', fof', rfl⟩ := hq
  refine zi_st (st' := [.int (-1)]) rfl ?_
  refine zi_istore_n (ls' := _ :: _ :: some _ :: _) O d_Mod_undo_5 rfl (by decide) rfl ?_
  refine zi_iload_n O d_Mod_undo_6 rfl ?_
  refine zi_iconstN O 1 d_Mod_undo_7 (by decide) ?_
  refine zi_icmp_eq O 18 d_Mod_undo_8 (by decide) (fun c8 => ?_) (fun c8 => ?_)
  · exact absurd c8 (by decide)
  · refine zi_iload_n O d_Mod_undo_11 rfl ?_
    refine zi_iconstN O 2 d_Mod_undo_12 (by decide) ?_
    refine zi_icmp_eq O 18 d_Mod_undo_13 (by decide) (fun c13 => ?_) (fun c13 => ?_)
    · exact absurd c13 (by decide)
    · refine zi_iconstN O 0 d_Mod_undo_16 (by decide) ?_
      refine zi_iret O d_Mod_undo_17 (Nat.le_of_ble_eq_true rfl) (Nat.le_of_ble_eq_true rfl) (Nat.le_of_ble_eq_true rfl) ?_
      exact ⟨rfl, _, _, _, _, _, _, _, _, _, _, _, _, _, _, _, _, _, _, _, _, _, rfl, hR, hS, hG, hPR, hPS, hPG⟩
theorem m_Mod_undo_0 (hM : Mdl k plab T n lab S0 ci h) (hE : Ed n lab S0 el fr to_ at_) (j l t : Nat) (hj : j < (FF (nxD fr to_ at_) (4 * n) (4 * n)).2) (hF : FaceK n (nxD fr to_ at_) j l t) (hp : ¬ (pat fr to_ (nxD fr to_ at_) l t = 1 ∨ pat fr to_ (nxD fr to_ at_) l t = 2)) : zMet y_Mod_undo b_Mod_undo 5 (some .int) ⟨6, 0, 0, 170⟩ [.ref 0, .int (nI j)] h (fun r h' => r = some (.int (nI 0)) ∧ Mdl k plab T n lab S0 ci h') := by
  obtain ⟨wrong, pS, pL, oN, oC, S, L, oS, oL, labs, row, fresh, piece, closed, faces, comp, fof, sides, side, free, arnd, rfl, hR, hS, hG, hPR, hPS, hPG⟩ := hM
  have hpl := pat_le (fr := fr) (to_ := to_) (nxD fr to_ at_) l t
  refine zMet_of (plainFor_of_name (by decide +kernel)) rfl (Nat.le_of_ble_eq_true rfl) (fun z1 z2 z3 z4 z5 z6 z7 z8 z9 z10 z11 z12 z13 z14 O hin => ?_)
  refine zi_ls (ls' := [some (.ref 0), some (.int (nI j)), none, none, none]) rfl ?_
  refine zi_aload_n O d_Mod_undo_0 rfl ?_
  refine zi_iload_n O d_Mod_undo_1 rfl ?_
  refine zi_selfV O c_Mod_176 k_Mod_pattern (m_Mod_pattern hR (sg_same hG hS) (ed_same hE (fun _ _ => rfl) hS) hj hF) d_Mod_undo_2 ⟨(Nat.le_of_ble_eq_true rfl), (Nat.le_of_ble_eq_true rfl)⟩ ⟨(Nat.le_of_ble_eq_true rfl), (Nat.le_of_ble_eq_true rfl)⟩ rfl rfl (Nat.le_of_ble_eq_true rfl) rfl rfl rfl (Nat.le_of_ble_eq_true rfl) rfl (fun r h' hq hl => ?_)
  obtain ⟨rfl, row', fof', side', rfl, -⟩ := hq
  refine zi_st (st' := [.int (nI (pat fr to_ (nxD fr to_ at_) l t))]) rfl ?_
  refine zi_istore_n (ls' := _ :: _ :: some _ :: _) O d_Mod_undo_5 rfl (by decide) rfl ?_
  refine zi_iload_n O d_Mod_undo_6 rfl ?_
  refine zi_iconstN O 1 d_Mod_undo_7 (by decide) ?_
  refine zi_icmp_eqN O 18 d_Mod_undo_8 (by decide) (by omega) (by omega) (fun c8 => ?_) (fun c8 => ?_)
  · exact absurd (Or.inl c8) hp
  · refine zi_iload_n O d_Mod_undo_11 rfl ?_
    refine zi_iconstN O 2 d_Mod_undo_12 (by decide) ?_
    refine zi_icmp_eqN O 18 d_Mod_undo_13 (by decide) (by omega) (by omega) (fun c13 => ?_) (fun c13 => ?_)
    · exact absurd (Or.inr c13) hp
    · refine zi_iconstN O 0 d_Mod_undo_16 (by decide) ?_
      refine zi_iret O d_Mod_undo_17 (Nat.le_of_ble_eq_true rfl) (Nat.le_of_ble_eq_true rfl) (Nat.le_of_ble_eq_true rfl) ?_
      exact ⟨rfl, _, _, _, _, _, _, _, _, _, _, _, _, _, _, _, _, _, _, _, _, _, rfl, hR, hS, hG, hPR, hPS, hPG⟩
set_option maxHeartbeats 1000000 in
theorem m_Mod_undo_1 (hM : Mdl k plab T n lab S0 ci h) (hE : Ed n lab S0 el fr to_ at_) (j l t : Nat) (hj : j < (FF (nxD fr to_ at_) (4 * n) (4 * n)).2) (hF : FaceK n (nxD fr to_ at_) j l t) (hp : pat fr to_ (nxD fr to_ at_) l t = 1) : zMet y_Mod_undo b_Mod_undo 5 (some .int) ⟨6, 0, 0, 170⟩ [.ref 0, .int (nI j)] h (fun r h' => r = some (.int (nI 1)) ∧ Mdl k plab T (n - 1) (lfL lab S0 (ca fr to_ l)) (rmS S0 n (ca fr to_ l)) (lfC lab S0 (ca fr to_ l) ci) h') := by
  obtain ⟨wrong, pS, pL, oN, oC, S, L, oS, oL, labs, row, fresh, piece, closed, faces, comp, fof, sides, side, free, arnd, rfl, hR, hS, hG, hPR, hPS, hPG⟩ := hM
  have hn := hR.1
  have hE' := ed_same hE (fun _ _ => rfl) hS
  have hG' := sg_same hG hS
  have hca : ca fr to_ l < n := by
    have := ar_lt hE hF.1
    unfold ca
    omega
  have ht0 := hF.2.1
  refine zMet_of (plainFor_of_name (by decide +kernel)) rfl (Nat.le_of_ble_eq_true rfl) (fun z1 z2 z3 z4 z5 z6 z7 z8 z9 z10 z11 z12 z13 z14 O hin => ?_)
  refine zi_ls (ls' := [some (.ref 0), some (.int (nI j)), none, none, none]) rfl ?_
  refine zi_aload_n O d_Mod_undo_0 rfl ?_
  refine zi_iload_n O d_Mod_undo_1 rfl ?_
  refine zi_selfV O c_Mod_176 k_Mod_pattern (m_Mod_pattern hR hG' hE' hj hF) d_Mod_undo_2 ⟨(Nat.le_of_ble_eq_true rfl), (Nat.le_of_ble_eq_true rfl)⟩ ⟨(Nat.le_of_ble_eq_true rfl), (Nat.le_of_ble_eq_true rfl)⟩ rfl rfl (Nat.le_of_ble_eq_true rfl) rfl rfl rfl (Nat.le_of_ble_eq_true rfl) rfl (fun r h' hq hl => ?_)
  obtain ⟨rfl, row', fof', side', rfl, hsd⟩ := hq
  refine zi_st (st' := [.int (nI 1)]) (by rw [hp]; rfl) ?_
  refine zi_istore_n (ls' := _ :: _ :: some _ :: _) O d_Mod_undo_5 rfl (by decide) rfl ?_
  refine zi_iload_n O d_Mod_undo_6 rfl ?_
  refine zi_iconstN O 1 d_Mod_undo_7 (by decide) ?_
  refine zi_icmp_eqN O 18 d_Mod_undo_8 (by decide) (by omega) (by omega) (fun c8 => ?_) (fun c8 => ?_)
  · refine zi_aload_n O d_Mod_undo_18 rfl ?_
    refine zi_aload_n O d_Mod_undo_19 rfl ?_
    refine zi_get O f_Mod_47 d_Mod_undo_20 rfl rfl ?_
    refine zi_iconstN O 0 d_Mod_undo_23 (by decide) ?_
    refine zi_iald O d_Mod_undo_24 rfl rfl (by omega) (Nat.le_of_ble_eq_true rfl) ?_
    rw [hsd 0 ht0]
    refine zi_selfP O c_Mod_163 k_Mod_corner (m_Mod_corner (d := l) hR hG' hE' hF.1) d_Mod_undo_25 ⟨(Nat.le_of_ble_eq_true rfl), (Nat.le_of_ble_eq_true rfl)⟩ ⟨(Nat.le_of_ble_eq_true rfl), (Nat.le_of_ble_eq_true rfl)⟩ rfl rfl (Nat.le_of_ble_eq_true rfl) rfl rfl rfl (Nat.le_of_ble_eq_true rfl) rfl ?_
    refine zi_istore_n (ls' := _ :: _ :: _ :: some _ :: _) O d_Mod_undo_28 rfl (by decide) rfl ?_
    refine zi_iload_n O d_Mod_undo_29 rfl ?_
    refine zi_iconstN O 1 d_Mod_undo_30 (by decide) ?_
    refine zi_icmp_neN O 38 d_Mod_undo_31 (by decide) (by omega) (by omega) (fun c31 => ?_) (fun c31 => ?_)
    · omega
    · refine zi_iload_n O d_Mod_undo_34 rfl ?_
      refine zi_goto O 48 d_Mod_undo_35 (by decide) ?_
      refine zi_istore (ls' := _ :: _ :: _ :: _ :: some _ :: _) O d_Mod_undo_48 rfl (by decide) rfl ?_
      refine zi_aload_n O d_Mod_undo_50 rfl ?_
      refine zi_iload_n O d_Mod_undo_51 rfl ?_
      refine zi_iload O d_Mod_undo_52 rfl ?_
      refine zi_icmp_geN O 61 d_Mod_undo_54 (by decide) (by omega) (by omega) (fun c54 => ?_) (fun c54 => ?_)
      · refine zi_iload O d_Mod_undo_61 rfl ?_
        refine zi_selfV O c_Mod_179 k_Mod_lift (m_Mod_lift hR hS (ca fr to_ l) hca) d_Mod_undo_63 ⟨(Nat.le_of_ble_eq_true rfl), (Nat.le_of_ble_eq_true rfl)⟩ ⟨(Nat.le_of_ble_eq_true rfl), (Nat.le_of_ble_eq_true rfl)⟩ rfl rfl (Nat.le_of_ble_eq_true rfl) rfl rfl rfl (Nat.le_of_ble_eq_true rfl) rfl (fun r h' hq hl => ?_)
        obtain ⟨rfl, L', S', fresh', rfl, hR2, hS2⟩ := hq
        refine zi_st (st' := []) rfl ?_
        refine zi_iload_n O d_Mod_undo_66 rfl ?_
        refine zi_iconstN O 2 d_Mod_undo_67 (by decide) ?_
        refine zi_icmp_neN O 91 d_Mod_undo_68 (by decide) (by omega) (by omega) (fun c68 => ?_) (fun c68 => ?_)
        · refine zi_iload_n O d_Mod_undo_91 rfl ?_
          refine zi_iret O d_Mod_undo_92 (Nat.le_of_ble_eq_true rfl) (Nat.le_of_ble_eq_true rfl) (Nat.le_of_ble_eq_true rfl) ?_
          exact ⟨rfl, _, _, _, _, _, _, _, _, _, _, _, _, _, _, _, _, _, _, _, _, _, rfl, hR2, hS2, sg_rm hG hca, hPR, hPS, hPG⟩
        · omega
      · omega
  · exact absurd rfl c8
set_option maxHeartbeats 1000000 in
theorem m_Mod_undo_2 (hM : Mdl k plab T n lab S0 ci h) (hE : Ed n lab S0 el fr to_ at_) (j l t : Nat) (hj : j < (FF (nxD fr to_ at_) (4 * n) (4 * n)).2) (hF : FaceK n (nxD fr to_ at_) j l t) (a b : Nat) (hp : pat fr to_ (nxD fr to_ at_) l t = 2) (ha : a = mn (ca fr to_ l) (ca fr to_ (nxD fr to_ at_ l))) (hb : b = mx (ca fr to_ l) (ca fr to_ (nxD fr to_ at_ l)) - 1) : zMet y_Mod_undo b_Mod_undo 5 (some .int) ⟨6, 0, 0, 170⟩ [.ref 0, .int (nI j)] h (fun r h' => r = some (.int (nI 2)) ∧ Mdl k plab T (n - 1 - 1) (lfL (lfL lab S0 a) (rmS S0 n a) b) (rmS (rmS S0 n a) (n - 1) b) (lfC (lfL lab S0 a) (rmS S0 n a) b (lfC lab S0 a ci)) h') := by
  obtain ⟨wrong, pS, pL, oN, oC, S, L, oS, oL, labs, row, fresh, piece, closed, faces, comp, fof, sides, side, free, arnd, rfl, hR, hS, hG, hPR, hPS, hPG⟩ := hM
  have hn := hR.1
  have hE' := ed_same hE (fun _ _ => rfl) hS
  have hG' := sg_same hG hS
  have hl1 := (perm_D hE).1 _ hF.1
  have hc0 : ca fr to_ l < n := by
    have := ar_lt hE hF.1
    unfold ca
    omega
  have hc1 : ca fr to_ (nxD fr to_ at_ l) < n := by
    have := ar_lt hE hl1
    unfold ca
    omega
  have hpp : t = 2 ∧ isFin fr to_ l (nxD fr to_ at_ l) := by
    unfold pat at hp
    by_cases c1 : t = 1
    · rw [if_pos c1] at hp; omega
    · rw [if_neg c1] at hp
      by_cases c2 : t = 2
      · rw [if_pos c2] at hp
        by_cases c3 : isFin fr to_ l (nxD fr to_ at_ l)
        · exact ⟨c2, c3⟩
        · rw [if_neg c3] at hp; omega
      · rw [if_neg c2] at hp
        split at hp
        · split at hp <;> omega
        · omega
  obtain ⟨ht2, hfin⟩ := hpp
  have hne := hfin.1
  have fin : ∀ {z1 z2 z3 z4 z5 z6 z7 z8 z9 z10 z11 z12 z13 z14 labs' row' faces' fof' side'} (p q : Nat), zOK y_Mod_undo.cls b_Mod_undo 5 (some .int) ⟨6, 0, 0, 170⟩ z1 z4 z5 z6 z7 z9 z10 z11 z12 z13 → p < n → q < n → p ≠ q → a = mn p q → b = mx p q - 1 → zG z1 z2 z3 z4 z5 z6 z7 z8 z9 z10 z11 z12 z13 z14 15 5 (fun r h' => r = some (.int (nI 2)) ∧ Mdl k plab T (n - 1 - 1) (lfL (lfL lab S0 a) (rmS S0 n a) b) (rmS (rmS S0 n a) (n - 1) b) (lfC (lfL lab S0 a) (rmS S0 n a) b (lfC lab S0 a ci)) h') 0 0 0 0 50 [some (.ref 0), some (.int (nI j)), some (.int (nI 2)), some (.int (nI p)), some (.int (nI q))] [] (mh k wrong pS pL n ci oN oC S L oS oL labs' row' fresh piece closed faces' comp fof' t side' free arnd) := by
    intro z1 z2 z3 z4 z5 z6 z7 z8 z9 z10 z11 z12 z13 z14 labs' row' faces' fof' side' p q O hp1 hq1 hpq ha hb
    refine zi_aload_n O d_Mod_undo_50 rfl ?_
    refine zi_iload_n O d_Mod_undo_51 rfl ?_
    refine zi_iload O d_Mod_undo_52 rfl ?_
    by_cases c : p < q
    · have ea : a = p := by rw [ha]; unfold mn; rw [if_neg (by omega)]
      have eb : b = q - 1 := by rw [hb]; unfold mx; rw [if_pos c]
      subst ea; subst eb
      refine zi_icmp_geN O 61 d_Mod_undo_54 (by decide) (by omega) (by omega) (fun c54 => ?_) (fun c54 => ?_)
      · omega
      · refine zi_iload_n O d_Mod_undo_57 rfl ?_
        refine zi_goto O 63 d_Mod_undo_58 (by decide) ?_
        refine zi_selfV O c_Mod_179 k_Mod_lift (m_Mod_lift hR hS a hp1) d_Mod_undo_63 ⟨(Nat.le_of_ble_eq_true rfl), (Nat.le_of_ble_eq_true rfl)⟩ ⟨(Nat.le_of_ble_eq_true rfl), (Nat.le_of_ble_eq_true rfl)⟩ rfl rfl (Nat.le_of_ble_eq_true rfl) rfl rfl rfl (Nat.le_of_ble_eq_true rfl) rfl (fun r h' hq hl => ?_)
        obtain ⟨rfl, L', S', fresh', rfl, hR2, hS2⟩ := hq
        refine zi_st (st' := []) rfl ?_
        refine zi_iload_n O d_Mod_undo_66 rfl ?_
        refine zi_iconstN O 2 d_Mod_undo_67 (by decide) ?_
        refine zi_icmp_neN O 91 d_Mod_undo_68 (by decide) (by omega) (by omega) (fun c68 => ?_) (fun c68 => ?_)
        · omega
        · refine zi_aload_n O d_Mod_undo_71 rfl ?_
          refine zi_iload_n O d_Mod_undo_72 rfl ?_
          refine zi_iload O d_Mod_undo_73 rfl ?_
          refine zi_icmp_geN O 85 d_Mod_undo_75 (by decide) (by omega) (by omega) (fun c75 => ?_) (fun c75 => ?_)
          · omega
          · refine zi_iload O d_Mod_undo_78 rfl ?_
            refine zi_iconstN O 1 d_Mod_undo_80 (by decide) ?_
            first | refine zi_isubN O d_Mod_undo_81 (by omega) ?_ | refine zi_isub O d_Mod_undo_81 ?_
            refine zi_goto O 88 d_Mod_undo_82 (by decide) ?_
            refine zi_selfV O c_Mod_179 k_Mod_lift (m_Mod_lift hR2 hS2 (q - 1) (by omega)) d_Mod_undo_88 ⟨(Nat.le_of_ble_eq_true rfl), (Nat.le_of_ble_eq_true rfl)⟩ ⟨(Nat.le_of_ble_eq_true rfl), (Nat.le_of_ble_eq_true rfl)⟩ rfl rfl (Nat.le_of_ble_eq_true rfl) rfl rfl rfl (Nat.le_of_ble_eq_true rfl) rfl (fun r h' hq hl => ?_)
            obtain ⟨rfl, L3, S3, fresh3, rfl, hR3, hS3⟩ := hq
            refine zi_st (st' := []) rfl ?_
            refine zi_iload_n O d_Mod_undo_91 rfl ?_
            refine zi_iret O d_Mod_undo_92 (Nat.le_of_ble_eq_true rfl) (Nat.le_of_ble_eq_true rfl) (Nat.le_of_ble_eq_true rfl) ?_
            exact ⟨rfl, _, _, _, _, _, _, _, _, _, _, _, _, _, _, _, _, _, _, _, _, _, rfl, hR3, hS3, sg_rm (sg_rm hG hp1) (by omega), hPR, hPS, hPG⟩
    · have ea : a = q := by rw [ha]; unfold mn; rw [if_pos (by omega)]
      have eb : b = p - 1 := by rw [hb]; unfold mx; rw [if_neg c]
      subst ea; subst eb
      refine zi_icmp_geN O 61 d_Mod_undo_54 (by decide) (by omega) (by omega) (fun c54 => ?_) (fun c54 => ?_)
      · refine zi_iload O d_Mod_undo_61 rfl ?_
        refine zi_selfV O c_Mod_179 k_Mod_lift (m_Mod_lift hR hS a hq1) d_Mod_undo_63 ⟨(Nat.le_of_ble_eq_true rfl), (Nat.le_of_ble_eq_true rfl)⟩ ⟨(Nat.le_of_ble_eq_true rfl), (Nat.le_of_ble_eq_true rfl)⟩ rfl rfl (Nat.le_of_ble_eq_true rfl) rfl rfl rfl (Nat.le_of_ble_eq_true rfl) rfl (fun r h' hq hl => ?_)
        obtain ⟨rfl, L', S', fresh', rfl, hR2, hS2⟩ := hq
        refine zi_st (st' := []) rfl ?_
        refine zi_iload_n O d_Mod_undo_66 rfl ?_
        refine zi_iconstN O 2 d_Mod_undo_67 (by decide) ?_
        refine zi_icmp_neN O 91 d_Mod_undo_68 (by decide) (by omega) (by omega) (fun c68 => ?_) (fun c68 => ?_)
        · omega
        · refine zi_aload_n O d_Mod_undo_71 rfl ?_
          refine zi_iload_n O d_Mod_undo_72 rfl ?_
          refine zi_iload O d_Mod_undo_73 rfl ?_
          refine zi_icmp_geN O 85 d_Mod_undo_75 (by decide) (by omega) (by omega) (fun c75 => ?_) (fun c75 => ?_)
          · refine zi_iload_n O d_Mod_undo_85 rfl ?_
            refine zi_iconstN O 1 d_Mod_undo_86 (by decide) ?_
            first | refine zi_isubN O d_Mod_undo_87 (by omega) ?_ | refine zi_isub O d_Mod_undo_87 ?_
            refine zi_selfV O c_Mod_179 k_Mod_lift (m_Mod_lift hR2 hS2 (p - 1) (by omega)) d_Mod_undo_88 ⟨(Nat.le_of_ble_eq_true rfl), (Nat.le_of_ble_eq_true rfl)⟩ ⟨(Nat.le_of_ble_eq_true rfl), (Nat.le_of_ble_eq_true rfl)⟩ rfl rfl (Nat.le_of_ble_eq_true rfl) rfl rfl rfl (Nat.le_of_ble_eq_true rfl) rfl (fun r h' hq hl => ?_)
            obtain ⟨rfl, L3, S3, fresh3, rfl, hR3, hS3⟩ := hq
            refine zi_st (st' := []) rfl ?_
            refine zi_iload_n O d_Mod_undo_91 rfl ?_
            refine zi_iret O d_Mod_undo_92 (Nat.le_of_ble_eq_true rfl) (Nat.le_of_ble_eq_true rfl) (Nat.le_of_ble_eq_true rfl) ?_
            exact ⟨rfl, _, _, _, _, _, _, _, _, _, _, _, _, _, _, _, _, _, _, _, _, _, rfl, hR3, hS3, sg_rm (sg_rm hG hq1) (by omega), hPR, hPS, hPG⟩
          · omega
      · omega
  refine zMet_of (plainFor_of_name (by decide +kernel)) rfl (Nat.le_of_ble_eq_true rfl) (fun z1 z2 z3 z4 z5 z6 z7 z8 z9 z10 z11 z12 z13 z14 O hin => ?_)
  refine zi_ls (ls' := [some (.ref 0), some (.int (nI j)), none, none, none]) rfl ?_
  refine zi_aload_n O d_Mod_undo_0 rfl ?_
  refine zi_iload_n O d_Mod_undo_1 rfl ?_
  refine zi_selfV O c_Mod_176 k_Mod_pattern (m_Mod_pattern hR hG' hE' hj hF) d_Mod_undo_2 ⟨(Nat.le_of_ble_eq_true rfl), (Nat.le_of_ble_eq_true rfl)⟩ ⟨(Nat.le_of_ble_eq_true rfl), (Nat.le_of_ble_eq_true rfl)⟩ rfl rfl (Nat.le_of_ble_eq_true rfl) rfl rfl rfl (Nat.le_of_ble_eq_true rfl) rfl (fun r h' hq hl => ?_)
  obtain ⟨rfl, row', fof', side', rfl, hsd⟩ := hq
  refine zi_st (st' := [.int (nI 2)]) (by rw [hp]; rfl) ?_
  refine zi_istore_n (ls' := _ :: _ :: some _ :: _) O d_Mod_undo_5 rfl (by decide) rfl ?_
  refine zi_iload_n O d_Mod_undo_6 rfl ?_
  refine zi_iconstN O 1 d_Mod_undo_7 (by decide) ?_
  refine zi_icmp_eqN O 18 d_Mod_undo_8 (by decide) (by omega) (by omega) (fun c8 => ?_) (fun c8 => ?_)
  · omega
  · refine zi_iload_n O d_Mod_undo_11 rfl ?_
    refine zi_iconstN O 2 d_Mod_undo_12 (by decide) ?_
    refine zi_icmp_eqN O 18 d_Mod_undo_13 (by decide) (by omega) (by omega) (fun c13 => ?_) (fun c13 => ?_)
    · refine zi_aload_n O d_Mod_undo_18 rfl ?_
      refine zi_aload_n O d_Mod_undo_19 rfl ?_
      refine zi_get O f_Mod_47 d_Mod_undo_20 rfl rfl ?_
      refine zi_iconstN O 0 d_Mod_undo_23 (by decide) ?_
      refine zi_iald O d_Mod_undo_24 rfl rfl (by omega) (Nat.le_of_ble_eq_true rfl) ?_
      rw [hsd 0 (by omega)]
      refine zi_selfP O c_Mod_163 k_Mod_corner (m_Mod_corner (d := l) hR hG' hE' hF.1) d_Mod_undo_25 ⟨(Nat.le_of_ble_eq_true rfl), (Nat.le_of_ble_eq_true rfl)⟩ ⟨(Nat.le_of_ble_eq_true rfl), (Nat.le_of_ble_eq_true rfl)⟩ rfl rfl (Nat.le_of_ble_eq_true rfl) rfl rfl rfl (Nat.le_of_ble_eq_true rfl) rfl ?_
      refine zi_istore_n (ls' := _ :: _ :: _ :: some _ :: _) O d_Mod_undo_28 rfl (by decide) rfl ?_
      refine zi_iload_n O d_Mod_undo_29 rfl ?_
      refine zi_iconstN O 1 d_Mod_undo_30 (by decide) ?_
      refine zi_icmp_neN O 38 d_Mod_undo_31 (by decide) (by omega) (by omega) (fun c31 => ?_) (fun c31 => ?_)
      · refine zi_aload_n O d_Mod_undo_38 rfl ?_
        refine zi_aload_n O d_Mod_undo_39 rfl ?_
        refine zi_get O f_Mod_47 d_Mod_undo_40 rfl rfl ?_
        refine zi_iconstN O 1 d_Mod_undo_43 (by decide) ?_
        refine zi_iald O d_Mod_undo_44 rfl rfl (by omega) (Nat.le_of_ble_eq_true rfl) ?_
        rw [hsd 1 (by omega)]
        refine zi_selfP O c_Mod_163 k_Mod_corner (m_Mod_corner (d := nxD fr to_ at_ l) hR hG' hE' hl1) d_Mod_undo_45 ⟨(Nat.le_of_ble_eq_true rfl), (Nat.le_of_ble_eq_true rfl)⟩ ⟨(Nat.le_of_ble_eq_true rfl), (Nat.le_of_ble_eq_true rfl)⟩ rfl rfl (Nat.le_of_ble_eq_true rfl) rfl rfl rfl (Nat.le_of_ble_eq_true rfl) rfl ?_
        refine zi_istore (ls' := _ :: _ :: _ :: _ :: some _ :: _) O d_Mod_undo_48 rfl (by decide) rfl ?_
        exact fin _ _ O hc0 hc1 hne ha hb
      · omega
    · exact absurd rfl c13
end
