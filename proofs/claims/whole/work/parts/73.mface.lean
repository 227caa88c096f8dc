/-! The model: its faces -/
theorem dl_lt {n : Nat} {lab : Nat → Nat} {S L : Nat → Int32} {el fr to_ at_ : Nat → Nat} (hR : RowOK n L lab) (h : Ed n lab S el fr to_ at_) {d : Nat} (hd : d < 4 * n) : dl el d < 20000 := by
  have := el_lt hR h (e := d / 2) (by omega)
  unfold dl
  omega
theorem dl_inj {n : Nat} {lab : Nat → Nat} {S : Nat → Int32} {el fr to_ at_ : Nat → Nat} (h : Ed n lab S el fr to_ at_) {a b : Nat} (ha : a < 4 * n) (hb : b < 4 * n) (he : dl el a = dl el b) : a = b := by
  have h1 : el (a / 2) = el (b / 2) := by rw [← dl_div el a, ← dl_div el b, he]
  have h2 := el_inj h (by omega) (by omega) h1
  have h3 : a % 2 = b % 2 := by rw [← dl_mod el a, ← dl_mod el b, he]
  omega
section
variable {put n oN labs closed faces sides : Nat} {wrong ci oC : Int32} {pS pL S L oS oL row fresh piece comp fof side free arnd : Nat → Int32}
set_option maxHeartbeats 1000000 in
theorem m_Mod_findFaces {lab el fr to_ at_ : Nat → Nat} (hR : RowOK n L lab) (hG : Sg n S) (h : Ed n lab S el fr to_ at_) : zMet y_Mod_findFaces b_Mod_findFaces 4 none ⟨3, 0, 0, 80⟩ [.ref 0] (mh put wrong pS pL n ci oN oC S L oS oL labs row fresh piece closed faces comp fof sides side free arnd)
    (fun r h' => r = none ∧ ∃ (row' fof' : Nat → Int32), h' = (mh put wrong pS pL n ci oN oC S L oS oL (2 * n) row' fresh piece closed ((FF (nxD fr to_ at_) (4 * n) (4 * n)).2) comp fof' sides side free arnd) ∧ (∀ i, i < 2 * n → row' i = nI (el i)) ∧ ∀ d, d < 4 * n → fof' d = (FF (nxD fr to_ at_) (4 * n) (4 * n)).1 d) := by
  have hn := hR.1
  have hp := perm_D h
  have hN : 4 * n < 2 ^ 31 := by omega
  refine zMet_of (plainFor_of_name (by decide +kernel)) rfl (Nat.le_of_ble_eq_true rfl) (fun z1 z2 z3 z4 z5 z6 z7 z8 z9 z10 z11 z12 z13 z14 O hin => ?_)
  refine zi_ls (ls' := [some (.ref 0), none, none, none]) rfl ?_
  refine zi_aload_n O d_Mod_findFaces_0 rfl ?_
  refine zi_selfV O c_Mod_80 k_Mod_sort (m_Mod_sort lab hR) d_Mod_findFaces_1 ⟨(Nat.le_of_ble_eq_true rfl), (Nat.le_of_ble_eq_true rfl)⟩ ⟨(Nat.le_of_ble_eq_true rfl), (Nat.le_of_ble_eq_true rfl)⟩ rfl rfl (Nat.le_of_ble_eq_true rfl) rfl rfl rfl (Nat.le_of_ble_eq_true rfl) rfl (fun r h' hq hl => ?_)
  obtain ⟨rfl, m, row', rw_, rfl, hrow, hsrt⟩ := hq
  obtain ⟨rfl, hrw⟩ := srt_ed h hsrt
  have hrow2 : ∀ i, i < 2 * n → row' i = nI (el i) := fun i hi => by rw [hrow i hi, hrw i hi]
  refine zi_st (st' := []) rfl ?_
  refine zi_iconstN O 0 d_Mod_findFaces_4 (by decide) ?_
  refine zi_istore_n (ls' := _ :: some _ :: _) O d_Mod_findFaces_5 rfl (by decide) rfl ?_
  refine zi_loop (σ := Nat × (Nat → Int32)) (fun x => [some (.ref 0), some (.int (nI x.1)), none, none]) (fun x => (mh put wrong pS pL n ci oN oC S L oS oL (2 * n) row' fresh piece closed faces comp (x.2) sides side free arnd)) (fun x => x.1 ≤ 80 ∧ ∀ q, q < x.1 → x.2 q = -1) (fun x => 80 - x.1) (0, fof) rfl rfl ⟨Nat.zero_le _, fun q hq => absurd hq (Nat.not_lt_zero q)⟩ ?_
  rintro ⟨i, C⟩ ⟨hi, hC⟩ ih
  dsimp only at hi hC ih ⊢
  refine zi_iload_n O d_Mod_findFaces_6 rfl ?_
  refine zi_bipushN O 80 d_Mod_findFaces_7 (by decide) ?_
  refine zi_icmp_geN O 25 d_Mod_findFaces_9 (by decide) (by omega) (by omega) (fun c9 => ?_) (fun c9 => ?_)
  · refine zi_aload_n O d_Mod_findFaces_25 rfl ?_
    refine zi_iconstN O 0 d_Mod_findFaces_26 (by decide) ?_
    refine zi_put O f_Mod_89 d_Mod_findFaces_27 rfl (Nat.le_of_ble_eq_true rfl) (fun _ => rfl) (fun _ => rfl) (by dsimp only [List.set]) ?_
    refine zi_iconstN O 0 d_Mod_findFaces_30 (by decide) ?_
    refine zi_istore_n (ls' := _ :: some _ :: _) O d_Mod_findFaces_31 rfl (by decide) rfl ?_
    refine zi_loop (σ := Nat × (Nat → Int32)) (fun x => [some (.ref 0), some (.int (nI x.1)), none, none]) (fun x => (mh put wrong pS pL n ci oN oC S L oS oL (2 * n) row' fresh piece closed ((FF (nxD fr to_ at_) (4 * n) x.1).2) comp (x.2) sides side free arnd)) (fun x => x.1 ≤ 4 * n ∧ ∀ e, e < 4 * n → x.2 e = (FF (nxD fr to_ at_) (4 * n) x.1).1 e) (fun x => 4 * n - x.1) (0, C) rfl rfl ⟨Nat.zero_le _, fun e he => hC _ (by omega)⟩ ?_
    rintro ⟨d, D⟩ ⟨hd, hD⟩ ih2
    dsimp only at hd hD ih2 ⊢
    obtain ⟨g1, g2, g3, g4⟩ := ff_cl hN hp d hd
    have hF := ff_le hN hp (d := d) (by omega)
    refine zi_iload_n O d_Mod_findFaces_32 rfl ?_
    refine zi_iconstN O 2 d_Mod_findFaces_33 (by decide) ?_
    refine zi_aload_n O d_Mod_findFaces_34 rfl ?_
    refine zi_get O f_Mod_74 d_Mod_findFaces_35 rfl rfl ?_
    first | refine zi_imulN O d_Mod_findFaces_38 ?_ | refine zi_imul O d_Mod_findFaces_38 ?_
    refine zi_icmp_geN O 152 d_Mod_findFaces_39 (by decide) (by omega) (by omega) (fun c39 => ?_) (fun c39 => ?_)
    · refine zi_vret O d_Mod_findFaces_152 (Nat.le_of_ble_eq_true rfl) (Nat.le_of_ble_eq_true rfl) (Nat.le_of_ble_eq_true rfl) ?_
      have : d = 4 * n := by omega
      subst this
      exact ⟨rfl, row', D, rfl, hrow2, hD⟩
    · have hdn : d < 4 * n := by omega
      refine zi_iconstN O 2 d_Mod_findFaces_42 (by decide) ?_
      refine zi_aload_n O d_Mod_findFaces_43 rfl ?_
      refine zi_get O f_Mod_32 d_Mod_findFaces_44 rfl rfl ?_
      refine zi_iload_n O d_Mod_findFaces_47 rfl ?_
      refine zi_iconstN O 2 d_Mod_findFaces_48 (by decide) ?_
      refine zi_idivN O d_Mod_findFaces_49 (by omega) (by omega) (by omega) ?_
      refine zi_iald O d_Mod_findFaces_50 rfl rfl (by omega) (Nat.le_of_ble_eq_true rfl) ?_
      rw [hrow2 (d / 2) (by omega)]
      first | refine zi_imulN O d_Mod_findFaces_51 ?_ | refine zi_imul O d_Mod_findFaces_51 ?_
      refine zi_iload_n O d_Mod_findFaces_52 rfl ?_
      refine zi_iconstN O 2 d_Mod_findFaces_53 (by decide) ?_
      refine zi_iremN O d_Mod_findFaces_54 (by omega) (by omega) (by omega) ?_
      first | refine zi_iaddN O d_Mod_findFaces_55 ?_ | refine zi_iadd O d_Mod_findFaces_55 ?_
      rw [show 2 * el (d / 2) + d % 2 = dl el d from rfl]
      refine zi_istore_n (ls' := _ :: _ :: some _ :: _) O d_Mod_findFaces_56 rfl (by decide) rfl ?_
      refine zi_aload_n O d_Mod_findFaces_57 rfl ?_
      refine zi_get O f_Mod_44 d_Mod_findFaces_58 rfl rfl ?_
      refine zi_iload_n O d_Mod_findFaces_61 rfl ?_
      refine zi_iald O d_Mod_findFaces_62 rfl rfl (by omega) (Nat.le_of_ble_eq_true rfl) ?_
      rw [hD d hdn]
      refine zi_if_ge O 70 d_Mod_findFaces_63 (by decide) (fun c63 => ?_) (fun c63 => ?_)
      · have e : FF (nxD fr to_ at_) (4 * n) (d + 1) = FF (nxD fr to_ at_) (4 * n) d := by rw [FF, if_neg (Int32.not_lt.mpr c63)]
        refine zi_iconstN O 0 d_Mod_findFaces_70 (by decide) ?_
        refine zi_istore_n (ls' := _ :: _ :: _ :: some _ :: _) O d_Mod_findFaces_71 rfl (by decide) rfl ?_
        refine zi_iload_n O d_Mod_findFaces_72 rfl ?_
        refine zi_if_eq O 128 d_Mod_findFaces_73 (by decide) (fun c73 => ?_) (fun c73 => ?_)
        · refine zi_aload_n O d_Mod_findFaces_128 rfl ?_
          refine zi_dup O d_Mod_findFaces_129 rfl ?_
          refine zi_get O f_Mod_89 d_Mod_findFaces_130 rfl rfl ?_
          refine zi_iload_n O d_Mod_findFaces_133 rfl ?_
          refine zi_if_eq O 141 d_Mod_findFaces_134 (by decide) (fun c134 => ?_) (fun c134 => ?_)
          · refine zi_iconstN O 0 d_Mod_findFaces_141 (by decide) ?_
            first | refine zi_iaddN O d_Mod_findFaces_142 ?_ | refine zi_iadd O d_Mod_findFaces_142 ?_
            refine zi_put O f_Mod_89 d_Mod_findFaces_143 rfl (Nat.le_of_ble_eq_true rfl) (fun _ => rfl) (fun _ => rfl) (by dsimp only [List.set]) ?_
            refine zi_iincN (ls' := _ :: some _ :: _) O 1 d_Mod_findFaces_146 rfl (by decide) rfl (by decide) rfl ?_
            refine zi_goto O 32 d_Mod_findFaces_149 (by decide) ?_
            refine zi_no 2 (ls' := _ :: _ :: none :: _) rfl ?_
            refine zi_no 3 (ls' := _ :: _ :: _ :: none :: _) rfl ?_
            have := ih2 (d + 1, D) ⟨by dsimp only; omega, fun e' he => by dsimp only; rw [e]; exact hD e' he⟩ (by dsimp only; omega)
            dsimp only at this
            rw [e] at this
            exact this
          · exact absurd rfl c134
        · exact absurd rfl c73
      · have hf := Int32.not_le.mp c63
        obtain ⟨t, t0, tb, td, t1, t2, tc, tw, tcl⟩ := walk_round (v := nI (FF (nxD fr to_ at_) (4 * n) d).2) hp g1 hdn hf (nI_pos (by omega))
        have e : FF (nxD fr to_ at_) (4 * n) (d + 1) = (gs (nxD fr to_ at_) (nI (FF (nxD fr to_ at_) (4 * n) d).2) (FF (nxD fr to_ at_) (4 * n) d).1 d t, (FF (nxD fr to_ at_) (4 * n) d).2 + 1) := by rw [FF, if_pos hf, tw]
        refine zi_iconstN O 1 d_Mod_findFaces_66 (by decide) ?_
        refine zi_goto O 71 d_Mod_findFaces_67 (by decide) ?_
        refine zi_istore_n (ls' := _ :: _ :: _ :: some _ :: _) O d_Mod_findFaces_71 rfl (by decide) rfl ?_
        refine zi_loop (σ := Nat × (Nat → Int32)) (fun x => [some (.ref 0), some (.int (nI d)), some (.int (nI (dl el (it (nxD fr to_ at_) x.1 d)))), some (.int (nI 1))]) (fun x => (mh put wrong pS pL n ci oN oC S L oS oL (2 * n) row' fresh piece closed ((FF (nxD fr to_ at_) (4 * n) d).2) comp (x.2) sides side free arnd)) (fun x => x.1 ≤ t ∧ ∀ e, e < 4 * n → x.2 e = gs (nxD fr to_ at_) (nI (FF (nxD fr to_ at_) (4 * n) d).2) (FF (nxD fr to_ at_) (4 * n) d).1 d x.1 e) (fun x => t - x.1) (0, D) rfl rfl ⟨Nat.zero_le _, hD⟩ ?_
        rintro ⟨a, X⟩ ⟨ha, hX⟩ ih3
        dsimp only at ha hX ih3 ⊢
        have hlt := it_lt hp hdn a
        have hdl := dl_lt hR h hlt
        have hrof : ∀ i, i < 2 * n → row' i = nI (el i) ∧ el i ≤ 9999 := fun i hi => ⟨hrow2 i hi, (el_lt hR h hi).2⟩
        refine zi_iload_n O d_Mod_findFaces_72 rfl ?_
        refine zi_if_eq O 128 d_Mod_findFaces_73 (by decide) (fun c73 => ?_) (fun c73 => ?_)
        · exact absurd c73 (by decide)
        · refine zi_aload_n O d_Mod_findFaces_76 rfl ?_
          refine zi_get O f_Mod_44 d_Mod_findFaces_77 rfl rfl ?_
          refine zi_iconstN O 2 d_Mod_findFaces_80 (by decide) ?_
          refine zi_aload_n O d_Mod_findFaces_81 rfl ?_
          refine zi_iload_n O d_Mod_findFaces_82 rfl ?_
          refine zi_iconstN O 2 d_Mod_findFaces_83 (by decide) ?_
          refine zi_idivN O d_Mod_findFaces_84 (by omega) (by omega) (by omega) ?_
          rw [dl_div]
          refine zi_selfP O c_Mod_92 k_Mod_rowOf (m_Mod_rowOf (m := 2 * n) (e := it (nxD fr to_ at_) a d / 2) (by omega) hrof (fun i j hij hj => h.2.1 i j hij hj) (by omega) rfl) d_Mod_findFaces_85 ⟨(Nat.le_of_ble_eq_true rfl), (Nat.le_of_ble_eq_true rfl)⟩ ⟨(Nat.le_of_ble_eq_true rfl), (Nat.le_of_ble_eq_true rfl)⟩ rfl rfl (Nat.le_of_ble_eq_true rfl) rfl rfl rfl (Nat.le_of_ble_eq_true rfl) rfl ?_
          first | refine zi_imulN O d_Mod_findFaces_88 ?_ | refine zi_imul O d_Mod_findFaces_88 ?_
          refine zi_iload_n O d_Mod_findFaces_89 rfl ?_
          refine zi_iconstN O 2 d_Mod_findFaces_90 (by decide) ?_
          refine zi_iremN O d_Mod_findFaces_91 (by omega) (by omega) (by omega) ?_
          first | refine zi_iaddN O d_Mod_findFaces_92 ?_ | refine zi_iadd O d_Mod_findFaces_92 ?_
          rw [dl_mod, show 2 * (it (nxD fr to_ at_) a d / 2) + it (nxD fr to_ at_) a d % 2 = it (nxD fr to_ at_) a d by omega]
          refine zi_iald O d_Mod_findFaces_93 rfl rfl (by omega) (Nat.le_of_ble_eq_true rfl) ?_
          rw [hX _ hlt]
          refine zi_if_ge O 128 d_Mod_findFaces_94 (by decide) (fun c94 => ?_) (fun c94 => ?_)
          · have hat : a = t := by
              rcases Nat.lt_or_ge a t with z | z
              · exact absurd (t1 a z) (Int32.not_lt.mpr c94)
              · omega
            subst hat
            refine zi_aload_n O d_Mod_findFaces_128 rfl ?_
            refine zi_dup O d_Mod_findFaces_129 rfl ?_
            refine zi_get O f_Mod_89 d_Mod_findFaces_130 rfl rfl ?_
            refine zi_iload_n O d_Mod_findFaces_133 rfl ?_
            refine zi_if_eq O 141 d_Mod_findFaces_134 (by decide) (fun c134 => ?_) (fun c134 => ?_)
            · exact absurd c134 (by decide)
            · refine zi_iconstN O 1 d_Mod_findFaces_137 (by decide) ?_
              refine zi_goto O 142 d_Mod_findFaces_138 (by decide) ?_
              first | refine zi_iaddN O d_Mod_findFaces_142 ?_ | refine zi_iadd O d_Mod_findFaces_142 ?_
              refine zi_put O f_Mod_89 d_Mod_findFaces_143 rfl (Nat.le_of_ble_eq_true rfl) (fun _ => rfl) (fun _ => rfl) (by dsimp only [List.set]) ?_
              refine zi_iincN (ls' := _ :: some _ :: _) O 1 d_Mod_findFaces_146 rfl (by decide) rfl (by decide) rfl ?_
              refine zi_goto O 32 d_Mod_findFaces_149 (by decide) ?_
              refine zi_no 2 (ls' := _ :: _ :: none :: _) rfl ?_
              refine zi_no 3 (ls' := _ :: _ :: _ :: none :: _) rfl ?_
              have := ih2 (d + 1, X) ⟨by dsimp only; omega, fun e' he => by dsimp only; rw [e]; exact hX e' he⟩ (by dsimp only; omega)
              dsimp only at this
              rw [e] at this
              exact this
          · have hat : a < t := by
              rcases Nat.lt_or_ge a t with z | z
              · exact z
              · have : a = t := by omega
                subst this
                exact absurd (Int32.not_le.mp c94) t2
            refine zi_aload_n O d_Mod_findFaces_97 rfl ?_
            refine zi_get O f_Mod_44 d_Mod_findFaces_98 rfl rfl ?_
            refine zi_iconstN O 2 d_Mod_findFaces_101 (by decide) ?_
            refine zi_aload_n O d_Mod_findFaces_102 rfl ?_
            refine zi_iload_n O d_Mod_findFaces_103 rfl ?_
            refine zi_iconstN O 2 d_Mod_findFaces_104 (by decide) ?_
            refine zi_idivN O d_Mod_findFaces_105 (by omega) (by omega) (by omega) ?_
            rw [dl_div]
            refine zi_selfP O c_Mod_92 k_Mod_rowOf (m_Mod_rowOf (m := 2 * n) (e := it (nxD fr to_ at_) a d / 2) (by omega) hrof (fun i j hij hj => h.2.1 i j hij hj) (by omega) rfl) d_Mod_findFaces_106 ⟨(Nat.le_of_ble_eq_true rfl), (Nat.le_of_ble_eq_true rfl)⟩ ⟨(Nat.le_of_ble_eq_true rfl), (Nat.le_of_ble_eq_true rfl)⟩ rfl rfl (Nat.le_of_ble_eq_true rfl) rfl rfl rfl (Nat.le_of_ble_eq_true rfl) rfl ?_
            first | refine zi_imulN O d_Mod_findFaces_109 ?_ | refine zi_imul O d_Mod_findFaces_109 ?_
            refine zi_iload_n O d_Mod_findFaces_110 rfl ?_
            refine zi_iconstN O 2 d_Mod_findFaces_111 (by decide) ?_
            refine zi_iremN O d_Mod_findFaces_112 (by omega) (by omega) (by omega) ?_
            first | refine zi_iaddN O d_Mod_findFaces_113 ?_ | refine zi_iadd O d_Mod_findFaces_113 ?_
            rw [dl_mod, show 2 * (it (nxD fr to_ at_) a d / 2) + it (nxD fr to_ at_) a d % 2 = it (nxD fr to_ at_) a d by omega]
            refine zi_aload_n O d_Mod_findFaces_114 rfl ?_
            refine zi_get O f_Mod_89 d_Mod_findFaces_115 rfl rfl ?_
            refine zi_iast O d_Mod_findFaces_118 rfl rfl (by omega) (Nat.le_of_ble_eq_true rfl) (by dsimp only [List.set]) ?_
            refine zi_aload_n O d_Mod_findFaces_119 rfl ?_
            refine zi_iload_n O d_Mod_findFaces_120 rfl ?_
            refine zi_selfP O c_Mod_95 k_Mod_turn (m_Mod_turn hR hG h hlt rfl) d_Mod_findFaces_121 ⟨(Nat.le_of_ble_eq_true rfl), (Nat.le_of_ble_eq_true rfl)⟩ ⟨(Nat.le_of_ble_eq_true rfl), (Nat.le_of_ble_eq_true rfl)⟩ rfl rfl (Nat.le_of_ble_eq_true rfl) rfl rfl rfl (Nat.le_of_ble_eq_true rfl) rfl ?_
            refine zi_istore_n (ls' := _ :: _ :: some _ :: _) O d_Mod_findFaces_124 rfl (by decide) rfl ?_
            refine zi_goto O 72 d_Mod_findFaces_125 (by decide) ?_
            refine ih3 (a + 1, upd X (it (nxD fr to_ at_) a d) (nI (FF (nxD fr to_ at_) (4 * n) d).2)) ⟨by dsimp only; omega, fun e' he => ?_⟩ (by dsimp only; omega)
            dsimp only
            rw [gs]
            by_cases c : e' = it (nxD fr to_ at_) a d
            · rw [c, pk_us, pk_us]
            · rw [pk_un c, pk_un c]
              exact hX e' he
  · refine zi_aload_n O d_Mod_findFaces_12 rfl ?_
    refine zi_get O f_Mod_44 d_Mod_findFaces_13 rfl rfl ?_
    refine zi_iload_n O d_Mod_findFaces_16 rfl ?_
    refine zi_iconst (v := -1) O d_Mod_findFaces_17 (by decide) ?_
    refine zi_iast O d_Mod_findFaces_18 rfl rfl (by omega) (Nat.le_of_ble_eq_true rfl) (by dsimp only [List.set]) ?_
    refine zi_iincN (ls' := _ :: some _ :: _) O 1 d_Mod_findFaces_19 rfl (by decide) rfl (by decide) rfl ?_
    refine zi_goto O 6 d_Mod_findFaces_22 (by decide) ?_
    refine ih (i + 1, upd C i (-1)) ⟨by dsimp only; omega, fun q hq => ?_⟩ (by dsimp only; omega)
    dsimp only at hq ⊢
    by_cases c : q = i
    · rw [c, pk_us]
    · rw [pk_un c]; exact hC q (by omega)
theorem m_Mod_findSides_no {lab el fr to_ at_ : Nat → Nat} (hR : RowOK n L lab) (hG : Sg n S) (h : Ed n lab S el fr to_ at_) (x : Int32) (hx : ¬ (0 ≤ x ∧ x < nI (FF (nxD fr to_ at_) (4 * n) (4 * n)).2)) : zMet y_Mod_findSides b_Mod_findSides 5 (some .boolean) ⟨4, 0, 0, 110⟩ [.ref 0, .int x] (mh put wrong pS pL n ci oN oC S L oS oL labs row fresh piece closed faces comp fof sides side free arnd)
    (fun r h' => r = some (.int (nI 0)) ∧ ∃ (row' fof' : Nat → Int32), h' = (mh put wrong pS pL n ci oN oC S L oS oL (2 * n) row' fresh piece closed ((FF (nxD fr to_ at_) (4 * n) (4 * n)).2) comp fof' 0 side free arnd)) := by
  refine zMet_of (plainFor_of_name (by decide +kernel)) rfl (Nat.le_of_ble_eq_true rfl) (fun z1 z2 z3 z4 z5 z6 z7 z8 z9 z10 z11 z12 z13 z14 O hin => ?_)
  refine zi_ls (ls' := [some (.ref 0), some (.int x), none, none, none]) rfl ?_
  refine zi_aload_n O d_Mod_findSides_0 rfl ?_
  refine zi_selfV O c_Mod_110 k_Mod_findFaces (m_Mod_findFaces hR hG h) d_Mod_findSides_1 ⟨(Nat.le_of_ble_eq_true rfl), (Nat.le_of_ble_eq_true rfl)⟩ ⟨(Nat.le_of_ble_eq_true rfl), (Nat.le_of_ble_eq_true rfl)⟩ rfl rfl (Nat.le_of_ble_eq_true rfl) rfl rfl rfl (Nat.le_of_ble_eq_true rfl) rfl (fun r h' hq hl => ?_)
  obtain ⟨rfl, row', fof', rfl, hrow, hfof⟩ := hq
  refine zi_st (st' := []) rfl ?_
  refine zi_aload_n O d_Mod_findSides_4 rfl ?_
  refine zi_iconstN O 0 d_Mod_findSides_5 (by decide) ?_
  refine zi_put O f_Mod_154 d_Mod_findSides_6 rfl (Nat.le_of_ble_eq_true rfl) (fun _ => rfl) (fun _ => rfl) (by dsimp only [List.set]) ?_
  refine zi_iload_n O d_Mod_findSides_9 rfl ?_
  refine zi_if_lt O 21 d_Mod_findSides_10 (by decide) (fun c10 => ?_) (fun c10 => ?_)
  · refine zi_iconstN O 0 d_Mod_findSides_21 (by decide) ?_
    refine zi_zret O d_Mod_findSides_22 rfl (Nat.le_of_ble_eq_true rfl) (Nat.le_of_ble_eq_true rfl) (Nat.le_of_ble_eq_true rfl) ?_
    exact ⟨rfl, row', fof', rfl⟩
  · refine zi_iload_n O d_Mod_findSides_13 rfl ?_
    refine zi_aload_n O d_Mod_findSides_14 rfl ?_
    refine zi_get O f_Mod_89 d_Mod_findSides_15 rfl rfl ?_
    refine zi_icmp_lt O 23 d_Mod_findSides_18 (by decide) (fun c18 => ?_) (fun c18 => ?_)
    · exact absurd ⟨Int32.not_lt.mp c10, c18⟩ hx
    · refine zi_iconstN O 0 d_Mod_findSides_21 (by decide) ?_
      refine zi_zret O d_Mod_findSides_22 rfl (Nat.le_of_ble_eq_true rfl) (Nat.le_of_ble_eq_true rfl) (Nat.le_of_ble_eq_true rfl) ?_
      exact ⟨rfl, row', fof', rfl⟩
set_option maxHeartbeats 1000000 in
theorem m_Mod_findSides {lab el fr to_ at_ : Nat → Nat} (hR : RowOK n L lab) (hG : Sg n S) (h : Ed n lab S el fr to_ at_) {k l t : Nat} (hk : k < (FF (nxD fr to_ at_) (4 * n) (4 * n)).2) (hF : FaceK n (nxD fr to_ at_) k l t) (ht : t ≤ 4 * n) : zMet y_Mod_findSides b_Mod_findSides 5 (some .boolean) ⟨4, 0, 0, 110⟩ [.ref 0, .int (nI k)] (mh put wrong pS pL n ci oN oC S L oS oL labs row fresh piece closed faces comp fof sides side free arnd)
    (fun r h' => r = some (.int (nI 1)) ∧ ∃ (row' fof' side' : Nat → Int32), h' = (mh put wrong pS pL n ci oN oC S L oS oL (2 * n) row' fresh piece closed ((FF (nxD fr to_ at_) (4 * n) (4 * n)).2) comp fof' t side' free arnd) ∧ ∀ i, i < t → side' i = nI (dl el (it (nxD fr to_ at_) i l))) := by
  have hn := hR.1
  have hp := perm_D h
  have hFn := ff_le (by omega) hp (Nat.le_refl (4 * n))
  obtain ⟨l1, t0, tb, tn, lk, lo⟩ := hF
  refine zMet_of (plainFor_of_name (by decide +kernel)) rfl (Nat.le_of_ble_eq_true rfl) (fun z1 z2 z3 z4 z5 z6 z7 z8 z9 z10 z11 z12 z13 z14 O hin => ?_)
  refine zi_ls (ls' := [some (.ref 0), some (.int (nI k)), none, none, none]) rfl ?_
  refine zi_aload_n O d_Mod_findSides_0 rfl ?_
  refine zi_selfV O c_Mod_110 k_Mod_findFaces (m_Mod_findFaces hR hG h) d_Mod_findSides_1 ⟨(Nat.le_of_ble_eq_true rfl), (Nat.le_of_ble_eq_true rfl)⟩ ⟨(Nat.le_of_ble_eq_true rfl), (Nat.le_of_ble_eq_true rfl)⟩ rfl rfl (Nat.le_of_ble_eq_true rfl) rfl rfl rfl (Nat.le_of_ble_eq_true rfl) rfl (fun r h' hq hl => ?_)
  obtain ⟨rfl, row', fof', rfl, hrow, hfof⟩ := hq
  refine zi_st (st' := []) rfl ?_
  refine zi_aload_n O d_Mod_findSides_4 rfl ?_
  refine zi_iconstN O 0 d_Mod_findSides_5 (by decide) ?_
  refine zi_put O f_Mod_154 d_Mod_findSides_6 rfl (Nat.le_of_ble_eq_true rfl) (fun _ => rfl) (fun _ => rfl) (by dsimp only [List.set]) ?_
  refine zi_iload_n O d_Mod_findSides_9 rfl ?_
  refine zi_if_lt O 21 d_Mod_findSides_10 (by decide) (fun c10 => ?_) (fun c10 => ?_)
  · exact absurd c10 (nI_pos (by omega))
  · refine zi_iload_n O d_Mod_findSides_13 rfl ?_
    refine zi_aload_n O d_Mod_findSides_14 rfl ?_
    refine zi_get O f_Mod_89 d_Mod_findSides_15 rfl rfl ?_
    refine zi_icmp_ltN O 23 d_Mod_findSides_18 (by decide) (by omega) (by omega) (fun c18 => ?_) (fun c18 => ?_)
    · refine zi_iconstN O 0 d_Mod_findSides_23 (by decide) ?_
      refine zi_istore_n (ls' := _ :: _ :: some _ :: _) O d_Mod_findSides_24 rfl (by decide) rfl ?_
      refine zi_for (fun i => [some (.ref 0), some (.int (nI k)), some (.int (nI i)), none, none]) (fun _ => (mh put wrong pS pL n ci oN oC S L oS oL (2 * n) row' fresh piece closed ((FF (nxD fr to_ at_) (4 * n) (4 * n)).2) comp fof' 0 side free arnd)) 0 l (by omega) rfl rfl (fun i _ hi ih => ?_) ?_
      · refine zi_aload_n O d_Mod_findSides_25 rfl ?_
        refine zi_get O f_Mod_44 d_Mod_findSides_26 rfl rfl ?_
        refine zi_iload_n O d_Mod_findSides_29 rfl ?_
        refine zi_iald O d_Mod_findSides_30 rfl rfl (by omega) (Nat.le_of_ble_eq_true rfl) ?_
        rw [hfof i (by omega)]
        refine zi_iload_n O d_Mod_findSides_31 rfl ?_
        refine zi_icmp_eq O 41 d_Mod_findSides_32 (by decide) (fun c32 => ?_) (fun c32 => ?_)
        · exact absurd c32 (lo i hi)
        · refine zi_iincN (ls' := _ :: _ :: some _ :: _) O 1 d_Mod_findSides_35 rfl (by decide) rfl (by decide) rfl ?_
          refine zi_goto O 25 d_Mod_findSides_38 (by decide) ?_
          exact ih
      · refine zi_aload_n O d_Mod_findSides_25 rfl ?_
        refine zi_get O f_Mod_44 d_Mod_findSides_26 rfl rfl ?_
        refine zi_iload_n O d_Mod_findSides_29 rfl ?_
        refine zi_iald O d_Mod_findSides_30 rfl rfl (by omega) (Nat.le_of_ble_eq_true rfl) ?_
        rw [hfof l l1, lk]
        refine zi_iload_n O d_Mod_findSides_31 rfl ?_
        refine zi_icmp_eq O 41 d_Mod_findSides_32 (by decide) (fun c32 => ?_) (fun c32 => ?_)
        · refine zi_iconstN O 2 d_Mod_findSides_41 (by decide) ?_
          refine zi_aload_n O d_Mod_findSides_42 rfl ?_
          refine zi_get O f_Mod_32 d_Mod_findSides_43 rfl rfl ?_
          refine zi_iload_n O d_Mod_findSides_46 rfl ?_
          refine zi_iconstN O 2 d_Mod_findSides_47 (by decide) ?_
          refine zi_idivN O d_Mod_findSides_48 (by omega) (by omega) (by omega) ?_
          refine zi_iald O d_Mod_findSides_49 rfl rfl (by omega) (Nat.le_of_ble_eq_true rfl) ?_
          rw [hrow (l / 2) (by omega)]
          first | refine zi_imulN O d_Mod_findSides_50 ?_ | refine zi_imul O d_Mod_findSides_50 ?_
          refine zi_iload_n O d_Mod_findSides_51 rfl ?_
          refine zi_iconstN O 2 d_Mod_findSides_52 (by decide) ?_
          refine zi_iremN O d_Mod_findSides_53 (by omega) (by omega) (by omega) ?_
          first | refine zi_iaddN O d_Mod_findSides_54 ?_ | refine zi_iadd O d_Mod_findSides_54 ?_
          rw [show 2 * el (l / 2) + l % 2 = dl el l from rfl]
          refine zi_istore_n (ls' := _ :: _ :: _ :: some _ :: _) O d_Mod_findSides_55 rfl (by decide) rfl ?_
          refine zi_iload_n O d_Mod_findSides_56 rfl ?_
          refine zi_istore (ls' := _ :: _ :: _ :: _ :: some _ :: _) O d_Mod_findSides_57 rfl (by decide) rfl ?_
          refine zi_loop (σ := Nat × (Nat → Int32)) (fun x => [some (.ref 0), some (.int (nI k)), some (.int (nI l)), some (.int (nI (dl el l))), some (.int (nI (dl el (it (nxD fr to_ at_) x.1 l))))]) (fun x => (mh put wrong pS pL n ci oN oC S L oS oL (2 * n) row' fresh piece closed ((FF (nxD fr to_ at_) (4 * n) (4 * n)).2) comp fof' (x.1) (x.2) free arnd)) (fun x => x.1 ≤ t ∧ ∀ i, i < x.1 → x.2 i = nI (dl el (it (nxD fr to_ at_) i l))) (fun x => t - x.1) (0, side) rfl rfl ⟨Nat.zero_le _, fun i hi => absurd hi (Nat.not_lt_zero i)⟩ ?_
          rintro ⟨a, X⟩ ⟨ha, hX⟩ ih
          dsimp only at ha hX ih ⊢
          have hlt := it_lt hp l1 a
          have hdl := dl_lt hR h hlt
          have hdl2 := dl_lt hR h l1
          have go : a < t → zG z1 z2 z3 z4 z5 z6 z7 z8 z9 z10 z11 z12 z13 z14 15 5 (fun r h' => r = some (.int (nI 1)) ∧ ∃ (row' fof' side' : Nat → Int32), h' = (mh put wrong pS pL n ci oN oC S L oS oL (2 * n) row' fresh piece closed ((FF (nxD fr to_ at_) (4 * n) (4 * n)).2) comp fof' t side' free arnd) ∧ ∀ i, i < t → side' i = nI (dl el (it (nxD fr to_ at_) i l))) 0 0 0 0 72 [some (.ref 0), some (.int (nI k)), some (.int (nI l)), some (.int (nI (dl el l))), some (.int (nI (dl el (it (nxD fr to_ at_) a l))))] [] (mh put wrong pS pL n ci oN oC S L oS oL (2 * n) row' fresh piece closed ((FF (nxD fr to_ at_) (4 * n) (4 * n)).2) comp fof' a X free arnd) := by
            intro hat
            refine zi_aload_n O d_Mod_findSides_72 rfl ?_
            refine zi_get O f_Mod_47 d_Mod_findSides_73 rfl rfl ?_
            refine zi_aload_n O d_Mod_findSides_76 rfl ?_
            refine zi_get O f_Mod_154 d_Mod_findSides_77 rfl rfl ?_
            refine zi_iload O d_Mod_findSides_80 rfl ?_
            refine zi_iast O d_Mod_findSides_82 rfl rfl (by omega) (Nat.le_of_ble_eq_true rfl) (by dsimp only [List.set]) ?_
            refine zi_aload_n O d_Mod_findSides_83 rfl ?_
            refine zi_dup O d_Mod_findSides_84 rfl ?_
            refine zi_get O f_Mod_154 d_Mod_findSides_85 rfl rfl ?_
            refine zi_iconstN O 1 d_Mod_findSides_88 (by decide) ?_
            first | refine zi_iaddN O d_Mod_findSides_89 ?_ | refine zi_iadd O d_Mod_findSides_89 ?_
            refine zi_put O f_Mod_154 d_Mod_findSides_90 rfl (Nat.le_of_ble_eq_true rfl) (fun _ => rfl) (fun _ => rfl) (by dsimp only [List.set]) ?_
            refine zi_aload_n O d_Mod_findSides_93 rfl ?_
            refine zi_iload O d_Mod_findSides_94 rfl ?_
            refine zi_selfP O c_Mod_95 k_Mod_turn (m_Mod_turn hR hG h hlt rfl) d_Mod_findSides_96 ⟨(Nat.le_of_ble_eq_true rfl), (Nat.le_of_ble_eq_true rfl)⟩ ⟨(Nat.le_of_ble_eq_true rfl), (Nat.le_of_ble_eq_true rfl)⟩ rfl rfl (Nat.le_of_ble_eq_true rfl) rfl rfl rfl (Nat.le_of_ble_eq_true rfl) rfl ?_
            refine zi_istore (ls' := _ :: _ :: _ :: _ :: some _ :: _) O d_Mod_findSides_99 rfl (by decide) rfl ?_
            refine zi_goto O 59 d_Mod_findSides_101 (by decide) ?_
            refine ih (a + 1, upd X a (nI (dl el (it (nxD fr to_ at_) a l)))) ⟨by dsimp only; omega, fun i hi => ?_⟩ (by dsimp only; omega)
            dsimp only at hi ⊢
            by_cases c : i = a
            · rw [c, pk_us]
            · rw [pk_un c]; exact hX i (by omega)
          refine zi_aload_n O d_Mod_findSides_59 rfl ?_
          refine zi_get O f_Mod_154 d_Mod_findSides_60 rfl rfl ?_
          refine zi_if_eq O 72 d_Mod_findSides_63 (by decide) (fun c63 => ?_) (fun c63 => ?_)
          · have : a = 0 := by
              rcases Nat.eq_zero_or_pos a with z | z
              · exact z
              · exact absurd c63 (nI_ne0 z (by omega))
            exact go (by omega)
          · have ha0 : 0 < a := Nat.pos_of_ne_zero (fun z => c63 (by rw [z]; rfl))
            refine zi_iload O d_Mod_findSides_66 rfl ?_
            refine zi_iload_n O d_Mod_findSides_68 rfl ?_
            refine zi_icmp_eqN O 104 d_Mod_findSides_69 (by decide) (by omega) (by omega) (fun c69 => ?_) (fun c69 => ?_)
            · have he := dl_inj h hlt l1 c69
              have hat : a = t := by
                rcases Nat.lt_or_ge a t with z | z
                · exact absurd he (tn a ha0 z)
                · omega
              subst hat
              refine zi_iconstN O 1 d_Mod_findSides_104 (by decide) ?_
              refine zi_zret O d_Mod_findSides_105 rfl (Nat.le_of_ble_eq_true rfl) (Nat.le_of_ble_eq_true rfl) (Nat.le_of_ble_eq_true rfl) ?_
              exact ⟨rfl, row', fof', X, rfl, hX⟩
            · refine go ?_
              rcases Nat.lt_or_ge a t with z | z
              · exact z
              · have : a = t := by omega
                rw [this, tb] at c69
                exact absurd rfl c69
        · exact absurd rfl c32
    · omega
end
