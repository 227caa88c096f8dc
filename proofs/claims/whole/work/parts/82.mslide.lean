/-! The model: slide, simplify -/
def sx (el fr to_ lab : Nat → Nat) (nx : Nat → Nat) (l : Nat) : Nat → (Nat → Nat)
  | 0 => lab
  | i + 1 => sE el fr to_ lab (sx el fr to_ lab nx l i) (it nx i l / 2)
section
variable {k n : Nat} {plab lab : Nat → Nat} {T S0 : Nat → Int32} {ci : Int32} {h : List zE} {el fr to_ at_ oc : Nat → Nat}
theorem m_Mod_slide_no (hM : Mdl k plab T n lab S0 ci h) (hE : Ed n lab S0 el fr to_ at_) (x : Int32) (hx : ¬ (0 ≤ x ∧ x < nI (FF (nxD fr to_ at_) (4 * n) (4 * n)).2)) : zMet y_Mod_slide b_Mod_slide 8 (some .boolean) ⟨6, 0, 0, 170⟩ [.ref 0, .int x] h (fun r h' => r = some (.int (nI 0)) ∧ Mdl k plab T n lab S0 ci h') := by
  obtain ⟨wrong, pS, pL, oN, oC, S, L, oS, oL, labs, row, fresh, piece, closed, faces, comp, fof, sides, side, free, arnd, rfl, hR, hS, hG, hPR, hPS, hPG⟩ := hM
  refine zMet_of (plainFor_of_name (by decide +kernel)) rfl (Nat.le_of_ble_eq_true rfl) (fun z1 z2 z3 z4 z5 z6 z7 z8 z9 z10 z11 z12 z13 z14 O hin => ?_)
  refine zi_ls (ls' := [some (.ref 0), some (.int x), none, none, none, none, none, none]) rfl ?_
  refine zi_aload_n O d_Mod_slide_0 rfl ?_
  refine zi_iload_n O d_Mod_slide_1 rfl ?_
  refine zi_selfV O c_Mod_176 k_Mod_pattern (m_Mod_pattern_no hR (sg_same hG hS) (ed_same hE (fun _ _ => rfl) hS) x hx) d_Mod_slide_2 ⟨(Nat.le_of_ble_eq_true rfl), (Nat.le_of_ble_eq_true rfl)⟩ ⟨(Nat.le_of_ble_eq_true rfl), (Nat.le_of_ble_eq_true rfl)⟩ rfl rfl (Nat.le_of_ble_eq_true rfl) rfl rfl rfl (Nat.le_of_ble_eq_true rfl) rfl (fun r h' hq hl => ?_)
  obtain ⟨rfl, row', fof', rfl⟩ := hq
  refine zi_st (st' := [.int (-1)]) rfl ?_
  refine zi_iconstN O 3 d_Mod_slide_5 (by decide) ?_
  refine zi_icmp_eq O 11 d_Mod_slide_6 (by decide) (fun c6 => ?_) (fun c6 => ?_)
  · exact absurd c6 (by decide)
  · refine zi_iconstN O 0 d_Mod_slide_9 (by decide) ?_
    refine zi_zret O d_Mod_slide_10 rfl (Nat.le_of_ble_eq_true rfl) (Nat.le_of_ble_eq_true rfl) (Nat.le_of_ble_eq_true rfl) ?_
    exact ⟨rfl, _, _, _, _, _, _, _, _, _, _, _, _, _, _, _, _, _, _, _, _, _, rfl, hR, hS, hG, hPR, hPS, hPG⟩
theorem m_Mod_slide_0 (hM : Mdl k plab T n lab S0 ci h) (hE : Ed n lab S0 el fr to_ at_) (j l t : Nat) (hj : j < (FF (nxD fr to_ at_) (4 * n) (4 * n)).2) (hF : FaceK n (nxD fr to_ at_) j l t) (hp : pat fr to_ (nxD fr to_ at_) l t ≠ 3) : zMet y_Mod_slide b_Mod_slide 8 (some .boolean) ⟨6, 0, 0, 170⟩ [.ref 0, .int (nI j)] h (fun r h' => r = some (.int (nI 0)) ∧ Mdl k plab T n lab S0 ci h') := by
  obtain ⟨wrong, pS, pL, oN, oC, S, L, oS, oL, labs, row, fresh, piece, closed, faces, comp, fof, sides, side, free, arnd, rfl, hR, hS, hG, hPR, hPS, hPG⟩ := hM
  have hpl := pat_le (fr := fr) (to_ := to_) (nxD fr to_ at_) l t
  refine zMet_of (plainFor_of_name (by decide +kernel)) rfl (Nat.le_of_ble_eq_true rfl) (fun z1 z2 z3 z4 z5 z6 z7 z8 z9 z10 z11 z12 z13 z14 O hin => ?_)
  refine zi_ls (ls' := [some (.ref 0), some (.int (nI j)), none, none, none, none, none, none]) rfl ?_
  refine zi_aload_n O d_Mod_slide_0 rfl ?_
  refine zi_iload_n O d_Mod_slide_1 rfl ?_
  refine zi_selfV O c_Mod_176 k_Mod_pattern (m_Mod_pattern hR (sg_same hG hS) (ed_same hE (fun _ _ => rfl) hS) hj hF) d_Mod_slide_2 ⟨(Nat.le_of_ble_eq_true rfl), (Nat.le_of_ble_eq_true rfl)⟩ ⟨(Nat.le_of_ble_eq_true rfl), (Nat.le_of_ble_eq_true rfl)⟩ rfl rfl (Nat.le_of_ble_eq_true rfl) rfl rfl rfl (Nat.le_of_ble_eq_true rfl) rfl (fun r h' hq hl => ?_)
  obtain ⟨rfl, row', fof', side', rfl, -⟩ := hq
  refine zi_st (st' := [.int (nI (pat fr to_ (nxD fr to_ at_) l t))]) rfl ?_
  refine zi_iconstN O 3 d_Mod_slide_5 (by decide) ?_
  refine zi_icmp_eqN O 11 d_Mod_slide_6 (by decide) (by omega) (by omega) (fun c6 => ?_) (fun c6 => ?_)
  · exact absurd c6 hp
  · refine zi_iconstN O 0 d_Mod_slide_9 (by decide) ?_
    refine zi_zret O d_Mod_slide_10 rfl (Nat.le_of_ble_eq_true rfl) (Nat.le_of_ble_eq_true rfl) (Nat.le_of_ble_eq_true rfl) ?_
    exact ⟨rfl, _, _, _, _, _, _, _, _, _, _, _, _, _, _, _, _, _, _, _, _, _, rfl, hR, hS, hG, hPR, hPS, hPG⟩
set_option maxHeartbeats 1000000 in
theorem m_Mod_slide_3 (hM : Mdl k plab T n lab S0 ci h) (hE : Ed n lab S0 el fr to_ at_) (j l t : Nat) (hj : j < (FF (nxD fr to_ at_) (4 * n) (4 * n)).2) (hF : FaceK n (nxD fr to_ at_) j l t) (hp : pat fr to_ (nxD fr to_ at_) l t = 3) (ht : t = 3) : zMet y_Mod_slide b_Mod_slide 8 (some .boolean) ⟨6, 0, 0, 170⟩ [.ref 0, .int (nI j)] h (fun r h' => r = some (.int (nI 1)) ∧ Mdl k plab T n (sl3 el fr to_ lab (l / 2) (nxD fr to_ at_ l / 2) (nxD fr to_ at_ (nxD fr to_ at_ l) / 2)) S0 ci h') := by
  obtain ⟨wrong, pS, pL, oN, oC, S, L, oS, oL, labs, row, fresh, piece, closed, faces, comp, fof, sides, side, free, arnd, rfl, hR, hS, hG, hPR, hPS, hPG⟩ := hM
  have hn := hR.1
  have hE' := ed_same hE (fun _ _ => rfl) hS
  have hG' := sg_same hG hS
  subst ht
  have hit := fun i => it_lt (perm_D hE) hF.1 i
  have hbd : ∀ i, ∀ q, q < 4 * n → 1 ≤ sx el fr to_ lab (nxD fr to_ at_) l i q ∧ sx el fr to_ lab (nxD fr to_ at_) l i q ≤ 9999 := by
    intro i
    induction i with
    | zero => intro q hq; exact (hR.2 q hq).2
    | succ i ih => exact sE_in hE hR ih (by have := hit i; omega)
  have e3 : sl3 el fr to_ lab (l / 2) (nxD fr to_ at_ l / 2) (nxD fr to_ at_ (nxD fr to_ at_ l) / 2) = sx el fr to_ lab (nxD fr to_ at_) l 3 := rfl
  rw [e3]
  refine zMet_of (plainFor_of_name (by decide +kernel)) rfl (Nat.le_of_ble_eq_true rfl) (fun z1 z2 z3 z4 z5 z6 z7 z8 z9 z10 z11 z12 z13 z14 O hin => ?_)
  refine zi_ls (ls' := [some (.ref 0), some (.int (nI j)), none, none, none, none, none, none]) rfl ?_
  refine zi_aload_n O d_Mod_slide_0 rfl ?_
  refine zi_iload_n O d_Mod_slide_1 rfl ?_
  refine zi_selfV O c_Mod_176 k_Mod_pattern (m_Mod_pattern hR hG' hE' hj hF) d_Mod_slide_2 ⟨(Nat.le_of_ble_eq_true rfl), (Nat.le_of_ble_eq_true rfl)⟩ ⟨(Nat.le_of_ble_eq_true rfl), (Nat.le_of_ble_eq_true rfl)⟩ rfl rfl (Nat.le_of_ble_eq_true rfl) rfl rfl rfl (Nat.le_of_ble_eq_true rfl) rfl (fun r h' hq hl => ?_)
  obtain ⟨rfl, row', fof', side', rfl, hsd⟩ := hq
  refine zi_st (st' := [.int (nI 3)]) (by rw [hp]; rfl) ?_
  refine zi_iconstN O 3 d_Mod_slide_5 (by decide) ?_
  refine zi_icmp_eqN O 11 d_Mod_slide_6 (by decide) (by omega) (by omega) (fun c6 => ?_) (fun c6 => ?_)
  · refine zi_iconstN O 0 d_Mod_slide_11 (by decide) ?_
    refine zi_istore_n (ls' := _ :: _ :: some _ :: _) O d_Mod_slide_12 rfl (by decide) rfl ?_
    refine zi_loop (σ := Nat × (Nat → Int32)) (fun s => [some (.ref 0), some (.int (nI j)), some (.int (nI s.1)), none, none, none, none, none]) (fun s => (mh k wrong pS pL n ci oN oC S L oS oL (2 * n) row' (s.2) piece closed ((FF (nxD fr to_ at_) (4 * n) (4 * n)).2) comp fof' 3 side' free arnd)) (fun s => s.1 ≤ 4 * n ∧ ∀ q, q < s.1 → s.2 q = nI (lab q)) (fun s => 4 * n - s.1) (0, fresh) rfl rfl ⟨Nat.zero_le _, fun q hq => absurd hq (Nat.not_lt_zero q)⟩ ?_
    rintro ⟨i, A⟩ ⟨hi, hA⟩ ih
    dsimp only at hi hA ih ⊢
    refine zi_iload_n O d_Mod_slide_13 rfl ?_
    refine zi_iconstN O 4 d_Mod_slide_14 (by decide) ?_
    refine zi_aload_n O d_Mod_slide_15 rfl ?_
    refine zi_get O f_Mod_59 d_Mod_slide_16 rfl rfl ?_
    first | refine zi_imulN O d_Mod_slide_19 ?_ | refine zi_imul O d_Mod_slide_19 ?_
    refine zi_icmp_geN O 41 d_Mod_slide_20 (by decide) (by omega) (by omega) (fun c20 => ?_) (fun c20 => ?_)
    · refine zi_iconstN O 0 d_Mod_slide_41 (by decide) ?_
      refine zi_istore_n (ls' := _ :: _ :: some _ :: _) O d_Mod_slide_42 rfl (by decide) rfl ?_
      refine zi_loop (σ := Nat × (Nat → Int32)) (fun s => [some (.ref 0), some (.int (nI j)), some (.int (nI s.1)), none, none, none, none, none]) (fun s => (mh k wrong pS pL n ci oN oC S L oS oL (2 * n) row' (s.2) piece closed ((FF (nxD fr to_ at_) (4 * n) (4 * n)).2) comp fof' 3 side' free arnd)) (fun s => s.1 ≤ 3 ∧ ∀ q, q < 4 * n → s.2 q = nI (sx el fr to_ lab (nxD fr to_ at_) l s.1 q)) (fun s => 3 - s.1) (0, A) rfl rfl ⟨Nat.zero_le _, fun q hq => hA q (by omega)⟩ ?_
      rintro ⟨w, B⟩ ⟨hw, hB⟩ ih2
      dsimp only at hw hB ih2 ⊢
      refine zi_iload_n O d_Mod_slide_43 rfl ?_
      refine zi_iconstN O 3 d_Mod_slide_44 (by decide) ?_
      refine zi_icmp_geN O 143 d_Mod_slide_45 (by decide) (by omega) (by omega) (fun c45 => ?_) (fun c45 => ?_)
      · have hw3 : w = 3 := by omega
        subst hw3
        refine zi_iconstN O 0 d_Mod_slide_143 (by decide) ?_
        refine zi_istore_n (ls' := _ :: _ :: some _ :: _) O d_Mod_slide_144 rfl (by decide) rfl ?_
        refine zi_loop (σ := Nat × (Nat → Int32)) (fun s => [some (.ref 0), some (.int (nI j)), some (.int (nI s.1)), none, none, none, none, none]) (fun s => (mh k wrong pS pL n ci oN oC S (s.2) oS oL (2 * n) row' B piece closed ((FF (nxD fr to_ at_) (4 * n) (4 * n)).2) comp fof' 3 side' free arnd)) (fun s => s.1 ≤ 4 * n ∧ ∀ q, q < s.1 → s.2 q = nI (sx el fr to_ lab (nxD fr to_ at_) l 3 q)) (fun s => 4 * n - s.1) (0, L) rfl rfl ⟨Nat.zero_le _, fun q hq => absurd hq (Nat.not_lt_zero q)⟩ ?_
        rintro ⟨i2, C⟩ ⟨hi2, hC⟩ ih3
        dsimp only at hi2 hC ih3 ⊢
        refine zi_iload_n O d_Mod_slide_145 rfl ?_
        refine zi_iconstN O 4 d_Mod_slide_146 (by decide) ?_
        refine zi_aload_n O d_Mod_slide_147 rfl ?_
        refine zi_get O f_Mod_59 d_Mod_slide_148 rfl rfl ?_
        first | refine zi_imulN O d_Mod_slide_151 ?_ | refine zi_imul O d_Mod_slide_151 ?_
        refine zi_icmp_geN O 173 d_Mod_slide_152 (by decide) (by omega) (by omega) (fun c152 => ?_) (fun c152 => ?_)
        · refine zi_iconstN O 1 d_Mod_slide_173 (by decide) ?_
          refine zi_zret O d_Mod_slide_174 rfl (Nat.le_of_ble_eq_true rfl) (Nat.le_of_ble_eq_true rfl) (Nat.le_of_ble_eq_true rfl) ?_
          exact ⟨rfl, _, _, _, _, _, _, _, _, _, _, _, _, _, _, _, _, _, _, _, _, _, rfl, ⟨hn, fun q hq => ⟨hC q (by omega), hbd 3 q hq⟩⟩, hS, hG, hPR, hPS, hPG⟩
        · refine zi_aload_n O d_Mod_slide_155 rfl ?_
          refine zi_get O f_Mod_23 d_Mod_slide_156 rfl rfl ?_
          refine zi_iload_n O d_Mod_slide_159 rfl ?_
          refine zi_aload_n O d_Mod_slide_160 rfl ?_
          refine zi_get O f_Mod_35 d_Mod_slide_161 rfl rfl ?_
          refine zi_iload_n O d_Mod_slide_164 rfl ?_
          refine zi_iald O d_Mod_slide_165 rfl rfl (by omega) (Nat.le_of_ble_eq_true rfl) ?_
          rw [hB i2 c152]
          refine zi_iast O d_Mod_slide_166 rfl rfl (by omega) (Nat.le_of_ble_eq_true rfl) (by dsimp only [List.set]) ?_
          refine zi_iincN (ls' := _ :: _ :: some _ :: _) O 1 d_Mod_slide_167 rfl (by decide) rfl (by decide) rfl ?_
          refine zi_goto O 145 d_Mod_slide_170 (by decide) ?_
          refine ih3 (i2 + 1, upd C i2 (nI (sx el fr to_ lab (nxD fr to_ at_) l 3 i2))) ⟨by dsimp only; omega, fun q hq => ?_⟩ (by dsimp only; omega)
          dsimp only at hq ⊢
          by_cases c : q = i2
          · rw [c, pk_us]
          · rw [pk_un c]; exact hC q (by omega)
      · have hlt := hit w
        have he : it (nxD fr to_ at_) w l / 2 < 2 * n := by omega
        have hdl := dl_lt hR hE hlt
        obtain ⟨f1, f2, -⟩ := hE.1 _ he
        have g1 := ac_lt f1
        have g2 := ac_lt f2
        refine zi_aload_n O d_Mod_slide_48 rfl ?_
        refine zi_get O f_Mod_47 d_Mod_slide_49 rfl rfl ?_
        refine zi_iload_n O d_Mod_slide_52 rfl ?_
        refine zi_iald O d_Mod_slide_53 rfl rfl (by omega) (Nat.le_of_ble_eq_true rfl) ?_
        rw [hsd w c45]
        refine zi_iconstN O 2 d_Mod_slide_54 (by decide) ?_
        refine zi_idivN O d_Mod_slide_55 (by omega) (by omega) (by omega) ?_
        rw [dl_div]
        refine zi_istore_n (ls' := _ :: _ :: _ :: some _ :: _) O d_Mod_slide_56 rfl (by decide) rfl ?_
        refine zi_aload_n O d_Mod_slide_57 rfl ?_
        refine zi_iload_n O d_Mod_slide_58 rfl ?_
        refine zi_iconstN O 1 d_Mod_slide_59 (by decide) ?_
        refine zi_selfP O c_Mod_66 k_Mod_placeOf (m_Mod_fr hR hG' hE' he) d_Mod_slide_60 ⟨(Nat.le_of_ble_eq_true rfl), (Nat.le_of_ble_eq_true rfl)⟩ ⟨(Nat.le_of_ble_eq_true rfl), (Nat.le_of_ble_eq_true rfl)⟩ rfl rfl (Nat.le_of_ble_eq_true rfl) rfl rfl rfl (Nat.le_of_ble_eq_true rfl) rfl ?_
        refine zi_istore (ls' := _ :: _ :: _ :: _ :: some _ :: _) O d_Mod_slide_63 rfl (by decide) rfl ?_
        refine zi_aload_n O d_Mod_slide_65 rfl ?_
        refine zi_iload_n O d_Mod_slide_66 rfl ?_
        refine zi_iconstN O 0 d_Mod_slide_67 (by decide) ?_
        refine zi_selfP O c_Mod_66 k_Mod_placeOf (m_Mod_to hR hG' hE' he) d_Mod_slide_68 ⟨(Nat.le_of_ble_eq_true rfl), (Nat.le_of_ble_eq_true rfl)⟩ ⟨(Nat.le_of_ble_eq_true rfl), (Nat.le_of_ble_eq_true rfl)⟩ rfl rfl (Nat.le_of_ble_eq_true rfl) rfl rfl rfl (Nat.le_of_ble_eq_true rfl) rfl ?_
        refine zi_istore (ls' := _ :: _ :: _ :: _ :: _ :: some _ :: _) O d_Mod_slide_71 rfl (by decide) rfl ?_
        refine zi_aload_n O d_Mod_slide_73 rfl ?_
        refine zi_get O f_Mod_23 d_Mod_slide_74 rfl rfl ?_
        refine zi_iload O d_Mod_slide_77 rfl ?_
        refine zi_pureS O [] c_Mod_70 k_Mod_across (m_Mod_across (fr (it (nxD fr to_ at_) w l / 2)) (by omega)) d_Mod_slide_79 ⟨(Nat.le_of_ble_eq_true rfl), (Nat.le_of_ble_eq_true rfl)⟩ ⟨(Nat.le_of_ble_eq_true rfl), (Nat.le_of_ble_eq_true rfl)⟩ rfl (Nat.le_of_ble_eq_true rfl) rfl rfl rfl rfl rfl (Nat.le_of_ble_eq_true rfl) rfl ?_
        refine zi_iald O d_Mod_slide_82 rfl rfl (by omega) (Nat.le_of_ble_eq_true rfl) ?_
        rw [(hR.2 _ g1).1]
        refine zi_istore (ls' := _ :: _ :: _ :: _ :: _ :: _ :: some _ :: _) O d_Mod_slide_83 rfl (by decide) rfl ?_
        refine zi_aload_n O d_Mod_slide_85 rfl ?_
        refine zi_get O f_Mod_23 d_Mod_slide_86 rfl rfl ?_
        refine zi_iload O d_Mod_slide_89 rfl ?_
        refine zi_pureS O [] c_Mod_70 k_Mod_across (m_Mod_across (to_ (it (nxD fr to_ at_) w l / 2)) (by omega)) d_Mod_slide_91 ⟨(Nat.le_of_ble_eq_true rfl), (Nat.le_of_ble_eq_true rfl)⟩ ⟨(Nat.le_of_ble_eq_true rfl), (Nat.le_of_ble_eq_true rfl)⟩ rfl (Nat.le_of_ble_eq_true rfl) rfl rfl rfl rfl rfl (Nat.le_of_ble_eq_true rfl) rfl ?_
        refine zi_iald O d_Mod_slide_94 rfl rfl (by omega) (Nat.le_of_ble_eq_true rfl) ?_
        rw [(hR.2 _ g2).1]
        refine zi_istore (ls' := _ :: _ :: _ :: _ :: _ :: _ :: _ :: some _ :: _) O d_Mod_slide_95 rfl (by decide) rfl ?_
        refine zi_aload_n O d_Mod_slide_97 rfl ?_
        refine zi_get O f_Mod_35 d_Mod_slide_98 rfl rfl ?_
        refine zi_iload O d_Mod_slide_101 rfl ?_
        refine zi_pureS O [] c_Mod_70 k_Mod_across (m_Mod_across (fr (it (nxD fr to_ at_) w l / 2)) (by omega)) d_Mod_slide_103 ⟨(Nat.le_of_ble_eq_true rfl), (Nat.le_of_ble_eq_true rfl)⟩ ⟨(Nat.le_of_ble_eq_true rfl), (Nat.le_of_ble_eq_true rfl)⟩ rfl (Nat.le_of_ble_eq_true rfl) rfl rfl rfl rfl rfl (Nat.le_of_ble_eq_true rfl) rfl ?_
        refine zi_iload_n O d_Mod_slide_106 rfl ?_
        refine zi_iast O d_Mod_slide_107 rfl rfl (by omega) (Nat.le_of_ble_eq_true rfl) (by dsimp only [List.set]) ?_
        refine zi_aload_n O d_Mod_slide_108 rfl ?_
        refine zi_get O f_Mod_35 d_Mod_slide_109 rfl rfl ?_
        refine zi_iload O d_Mod_slide_112 rfl ?_
        refine zi_iload O d_Mod_slide_114 rfl ?_
        refine zi_iast O d_Mod_slide_116 rfl rfl (by omega) (Nat.le_of_ble_eq_true rfl) (by dsimp only [List.set]) ?_
        refine zi_aload_n O d_Mod_slide_117 rfl ?_
        refine zi_get O f_Mod_35 d_Mod_slide_118 rfl rfl ?_
        refine zi_iload O d_Mod_slide_121 rfl ?_
        refine zi_iload O d_Mod_slide_123 rfl ?_
        refine zi_iast O d_Mod_slide_125 rfl rfl (by omega) (Nat.le_of_ble_eq_true rfl) (by dsimp only [List.set]) ?_
        refine zi_aload_n O d_Mod_slide_126 rfl ?_
        refine zi_get O f_Mod_35 d_Mod_slide_127 rfl rfl ?_
        refine zi_iload O d_Mod_slide_130 rfl ?_
        refine zi_pureS O [] c_Mod_70 k_Mod_across (m_Mod_across (to_ (it (nxD fr to_ at_) w l / 2)) (by omega)) d_Mod_slide_132 ⟨(Nat.le_of_ble_eq_true rfl), (Nat.le_of_ble_eq_true rfl)⟩ ⟨(Nat.le_of_ble_eq_true rfl), (Nat.le_of_ble_eq_true rfl)⟩ rfl (Nat.le_of_ble_eq_true rfl) rfl rfl rfl rfl rfl (Nat.le_of_ble_eq_true rfl) rfl ?_
        refine zi_iload_n O d_Mod_slide_135 rfl ?_
        refine zi_iast O d_Mod_slide_136 rfl rfl (by omega) (Nat.le_of_ble_eq_true rfl) (by dsimp only [List.set]) ?_
        refine zi_iincN (ls' := _ :: _ :: some _ :: _) O 1 d_Mod_slide_137 rfl (by decide) rfl (by decide) rfl ?_
        refine zi_goto O 43 d_Mod_slide_140 (by decide) ?_
        refine zi_no 3 (ls' := _ :: _ :: _ :: none :: _) rfl ?_
        refine zi_no 4 (ls' := _ :: _ :: _ :: _ :: none :: _) rfl ?_
        refine zi_no 5 (ls' := _ :: _ :: _ :: _ :: _ :: none :: _) rfl ?_
        refine zi_no 6 (ls' := _ :: _ :: _ :: _ :: _ :: _ :: none :: _) rfl ?_
        refine zi_no 7 (ls' := _ :: _ :: _ :: _ :: _ :: _ :: _ :: none :: _) rfl ?_
        refine ih2 (w + 1, upd (upd (upd (upd B (ac (fr (it (nxD fr to_ at_) w l / 2))) (nI (el (it (nxD fr to_ at_) w l / 2)))) (fr (it (nxD fr to_ at_) w l / 2)) (nI (lab (ac (to_ (it (nxD fr to_ at_) w l / 2)))))) (to_ (it (nxD fr to_ at_) w l / 2)) (nI (lab (ac (fr (it (nxD fr to_ at_) w l / 2)))))) (ac (to_ (it (nxD fr to_ at_) w l / 2))) (nI (el (it (nxD fr to_ at_) w l / 2)))) ⟨by dsimp only; omega, ?_⟩ (by dsimp only; omega)
        dsimp only
        rw [sx]
        unfold sE
        exact hold_up (hold_up (hold_up (hold_up hB _ _) _ _) _ _) _ _
    · refine zi_aload_n O d_Mod_slide_23 rfl ?_
      refine zi_get O f_Mod_35 d_Mod_slide_24 rfl rfl ?_
      refine zi_iload_n O d_Mod_slide_27 rfl ?_
      refine zi_aload_n O d_Mod_slide_28 rfl ?_
      refine zi_get O f_Mod_23 d_Mod_slide_29 rfl rfl ?_
      refine zi_iload_n O d_Mod_slide_32 rfl ?_
      refine zi_iald O d_Mod_slide_33 rfl rfl (by omega) (Nat.le_of_ble_eq_true rfl) ?_
      rw [(hR.2 i c20).1]
      refine zi_iast O d_Mod_slide_34 rfl rfl (by omega) (Nat.le_of_ble_eq_true rfl) (by dsimp only [List.set]) ?_
      refine zi_iincN (ls' := _ :: _ :: some _ :: _) O 1 d_Mod_slide_35 rfl (by decide) rfl (by decide) rfl ?_
      refine zi_goto O 13 d_Mod_slide_38 (by decide) ?_
      refine ih (i + 1, upd A i (nI (lab i))) ⟨by dsimp only; omega, fun q hq => ?_⟩ (by dsimp only; omega)
      dsimp only at hq ⊢
      by_cases c : q = i
      · rw [c, pk_us]
      · rw [pk_un c]; exact hA q (by omega)
  · exact absurd rfl c6
theorem und_not {n j l t : Nat} {fr to_ at_ : Nat → Nat} (hF : FaceK n (nxD fr to_ at_) j l t) (h : ¬ Und n fr to_ at_ j) : ¬ (pat fr to_ (nxD fr to_ at_) l t = 1 ∨ pat fr to_ (nxD fr to_ at_) l t = 2) := by
  intro z
  refine h (fun l' t' hF' => ?_)
  obtain ⟨rfl, rfl⟩ := faceK_uniq hF hF'
  exact z
set_option maxHeartbeats 2000000 in
theorem m_Mod_simplify {g n' : Nat} {lab' : Nat → Nat} {S' : Nat → Int32} {ci' : Int32} (hM : Mdl k plab T n lab S0 ci h) (hs : Simp 20 n lab S0 ci g n' lab' S' ci') : zMet y_Mod_simplify b_Mod_simplify 4 (some .int) ⟨7, 0, 0, 200⟩ [.ref 0] h (fun r h' => r = some (.int (nI g)) ∧ Mdl k plab T n' lab' S' ci' h') := by
  have hlen : h.length = 15 := by
    obtain ⟨wrong, pS, pL, oN, oC, S, L, oS, oL, labs, row, fresh, piece, closed, faces, comp, fof, sides, side, free, arnd, rfl, hR, hS, hG, hPR, hPS, hPG⟩ := hM
    rfl
  refine zMet_of (plainFor_of_name (by decide +kernel)) rfl (Nat.le_of_ble_eq_true rfl) (fun z1 z2 z3 z4 z5 z6 z7 z8 z9 z10 z11 z12 z13 z14 O hin => ?_)
  refine zi_ls (ls' := [some (.ref 0), none, none, none]) rfl ?_
  rw [hlen]
  have key : ∀ (f n : Nat) (lab : Nat → Nat) (S0 : Nat → Int32) (ci : Int32) (went g1 : Nat) (hX : List zE), Mdl k plab T n lab S0 ci hX → Simp f n lab S0 ci g1 n' lab' S' ci' → went + g1 = g → zG z1 z2 z3 z4 z5 z6 z7 z8 z9 z10 z11 z12 z13 z14 15 4 (fun r h' => r = some (.int (nI g)) ∧ Mdl k plab T n' lab' S' ci' h') 0 0 0 0 4 [some (.ref 0), some (.int (nI went)), some (.int (nI 0)), none] [] hX := by
    intro f
    have stay : ∀ (n : Nat) (lab : Nat → Nat) (S0 : Nat → Int32) (ci : Int32) (el fr to_ at_ : Nat → Nat) (went K : Nat) (hX : List zE), Mdl k plab T n lab S0 ci hX → Ed n lab S0 el fr to_ at_ → K ≤ (FF (nxD fr to_ at_) (4 * n) (4 * n)).2 → (∀ j, j < K → ¬ Und n fr to_ at_ j) → (∀ hY, Mdl k plab T n lab S0 ci hY → zG z1 z2 z3 z4 z5 z6 z7 z8 z9 z10 z11 z12 z13 z14 15 4 (fun r h' => r = some (.int (nI g)) ∧ Mdl k plab T n' lab' S' ci' h') 0 0 0 0 4 [some (.ref 0), some (.int (nI went)), some (.int (nI K)), none] [] hY) → zG z1 z2 z3 z4 z5 z6 z7 z8 z9 z10 z11 z12 z13 z14 15 4 (fun r h' => r = some (.int (nI g)) ∧ Mdl k plab T n' lab' S' ci' h') 0 0 0 0 4 [some (.ref 0), some (.int (nI went)), some (.int (nI 0)), none] [] hX := by
      intro n lab S0 ci el fr to_ at_ went K hX hM hE hK hno hend
      refine zi_loop (σ := Nat × List zE) (fun x => [some (.ref 0), some (.int (nI went)), some (.int (nI x.1)), none]) (fun x => x.2) (fun x => x.1 ≤ K ∧ Mdl k plab T n lab S0 ci x.2) (fun x => K - x.1) (0, hX) rfl rfl ⟨Nat.zero_le _, hM⟩ ?_
      rintro ⟨i, hY⟩ ⟨hi, hM1⟩ ih
      dsimp only at hi hM1 ih ⊢
      by_cases c : i = K
      · rw [c]; exact hend hY hM1
      · obtain ⟨wrong, pS, pL, oN, oC, S, L, oS, oL, labs, row, fresh, piece, closed, faces, comp, fof, sides, side, free, arnd, rfl, hR, hS, hG, hPR, hPS, hPG⟩ := hM1
        have hn := hR.1
        have hFF := ff_le (by omega) (perm_D hE) (Nat.le_refl (4 * n))
        obtain ⟨l, t, hF, -⟩ := face_ex hn hE (k := i) (by omega)
        refine zi_iload_n O d_Mod_simplify_4 rfl ?_
        refine zi_aload_n O d_Mod_simplify_5 rfl ?_
        refine zi_selfV O c_Mod_142 k_Mod_allFaces (m_Mod_allFaces hR (sg_same hG hS) (ed_same hE (fun _ _ => rfl) hS)) d_Mod_simplify_6 ⟨(Nat.le_of_ble_eq_true rfl), (Nat.le_of_ble_eq_true rfl)⟩ ⟨(Nat.le_of_ble_eq_true rfl), (Nat.le_of_ble_eq_true rfl)⟩ rfl rfl (Nat.le_of_ble_eq_true rfl) rfl rfl rfl (Nat.le_of_ble_eq_true rfl) rfl (fun r h' hq hl => ?_)
        obtain ⟨rfl, row', fof', rfl⟩ := hq
        refine zi_st (st' := [.int (nI (FF (nxD fr to_ at_) (4 * n) (4 * n)).2), .int (nI i)]) rfl ?_
        refine zi_icmp_geN O 37 d_Mod_simplify_9 (by decide) (by omega) (by omega) (fun c9 => ?_) (fun c9 => ?_)
        · omega
        · refine zi_aload_n O d_Mod_simplify_12 rfl ?_
          refine zi_iload_n O d_Mod_simplify_13 rfl ?_
          refine zi_selfV O c_Mod_183 k_Mod_undo (m_Mod_undo_0 ⟨_, _, _, _, _, _, _, _, _, _, _, _, _, _, _, _, _, _, _, _, _, rfl, hR, hS, hG, hPR, hPS, hPG⟩ hE i l t (by omega) hF (und_not hF (hno i (by omega)))) d_Mod_simplify_14 ⟨(Nat.le_of_ble_eq_true rfl), (Nat.le_of_ble_eq_true rfl)⟩ ⟨(Nat.le_of_ble_eq_true rfl), (Nat.le_of_ble_eq_true rfl)⟩ rfl rfl (Nat.le_of_ble_eq_true rfl) rfl rfl rfl (Nat.le_of_ble_eq_true rfl) rfl (fun r h' hq hl => ?_)
          obtain ⟨rfl, hM2⟩ := hq
          refine zi_st (st' := [.int (nI 0)]) rfl ?_
          refine zi_istore_n (ls' := _ :: _ :: _ :: some _ :: _) O d_Mod_simplify_17 rfl (by decide) rfl ?_
          refine zi_iload_n O d_Mod_simplify_18 rfl ?_
          refine zi_iload_n O d_Mod_simplify_19 rfl ?_
          first | refine zi_iaddN O d_Mod_simplify_20 ?_ | refine zi_iadd O d_Mod_simplify_20 ?_
          refine zi_istore_n (ls' := _ :: some _ :: _) O d_Mod_simplify_21 rfl (by decide) rfl ?_
          refine zi_iload_n O d_Mod_simplify_22 rfl ?_
          refine zi_if_le O 30 d_Mod_simplify_23 (by decide) (fun c23 => ?_) (fun c23 => ?_)
          · refine zi_iload_n O d_Mod_simplify_30 rfl ?_
            refine zi_iconstN O 1 d_Mod_simplify_31 (by decide) ?_
            first | refine zi_iaddN O d_Mod_simplify_32 ?_ | refine zi_iadd O d_Mod_simplify_32 ?_
            refine zi_istore_n (ls' := _ :: _ :: some _ :: _) O d_Mod_simplify_33 rfl (by decide) rfl ?_
            refine zi_goto O 4 d_Mod_simplify_34 (by decide) ?_
            refine zi_no 3 (ls' := _ :: _ :: _ :: none :: _) rfl ?_
            exact ih (i + 1, h') ⟨by dsimp only; omega, hM2⟩ (by dsimp only; omega)
          · exact absurd (by decide) c23
    have done : ∀ (n : Nat) (lab : Nat → Nat) (S0 : Nat → Int32) (ci : Int32) (went g1 : Nat) (hX : List zE), Mdl k plab T n lab S0 ci hX → (Fin0 n lab S0 ∧ g1 = 0 ∧ n' = n ∧ lab' = lab ∧ S' = S0 ∧ ci' = ci) → went + g1 = g → zG z1 z2 z3 z4 z5 z6 z7 z8 z9 z10 z11 z12 z13 z14 15 4 (fun r h' => r = some (.int (nI g)) ∧ Mdl k plab T n' lab' S' ci' h') 0 0 0 0 4 [some (.ref 0), some (.int (nI went)), some (.int (nI 0)), none] [] hX := by
      rintro n lab S0 ci went g1 hX hM ⟨⟨el, fr, to_, at_, hE, hno⟩, rfl, rfl, rfl, rfl, rfl⟩ hg
      refine stay _ _ _ _ el fr to_ at_ went _ hX hM hE (Nat.le_refl _) hno (fun hY hM1 => ?_)
      obtain ⟨wrong, pS, pL, oN, oC, S, L, oS, oL, labs, row, fresh, piece, closed, faces, comp, fof, sides, side, free, arnd, rfl, hR, hS, hG, hPR, hPS, hPG⟩ := hM1
      have hn := hR.1
      have hFF := ff_le (by omega) (perm_D hE) (Nat.le_refl (4 * n'))
      refine zi_iload_n O d_Mod_simplify_4 rfl ?_
      refine zi_aload_n O d_Mod_simplify_5 rfl ?_
      refine zi_selfV O c_Mod_142 k_Mod_allFaces (m_Mod_allFaces hR (sg_same hG hS) (ed_same hE (fun _ _ => rfl) hS)) d_Mod_simplify_6 ⟨(Nat.le_of_ble_eq_true rfl), (Nat.le_of_ble_eq_true rfl)⟩ ⟨(Nat.le_of_ble_eq_true rfl), (Nat.le_of_ble_eq_true rfl)⟩ rfl rfl (Nat.le_of_ble_eq_true rfl) rfl rfl rfl (Nat.le_of_ble_eq_true rfl) rfl (fun r h' hq hl => ?_)
      obtain ⟨rfl, row', fof', rfl⟩ := hq
      refine zi_st (st' := [.int (nI (FF (nxD fr to_ at_) (4 * n') (4 * n')).2), .int (nI (FF (nxD fr to_ at_) (4 * n') (4 * n')).2)]) rfl ?_
      refine zi_icmp_geN O 37 d_Mod_simplify_9 (by decide) (by omega) (by omega) (fun c9 => ?_) (fun c9 => ?_)
      · refine zi_iload_n O d_Mod_simplify_37 rfl ?_
        refine zi_iret O d_Mod_simplify_38 (Nat.le_of_ble_eq_true rfl) (Nat.le_of_ble_eq_true rfl) (Nat.le_of_ble_eq_true rfl) ?_
        exact ⟨by rw [show went = g by omega], _, _, _, _, _, _, _, _, _, _, _, _, _, _, _, _, _, _, _, _, _, rfl, hR, hS, hG, hPR, hPS, hPG⟩
      · omega
    induction f with
    | zero => intro n lab S0 ci went g1 hX hM hs hg; exact done n lab S0 ci went g1 hX hM hs hg
    | succ f ihf =>
      intro n lab S0 ci went g1 hX hM hs hg
      rcases hs with hs | ⟨c, n1, lab1, S1, ci1, g2, hU, rfl, hs⟩
      · exact done n lab S0 ci went g1 hX hM hs hg
      · obtain ⟨el, fr, to_, at_, K, l, t, hE, hK, hUn, hno, hF, hcase⟩ := hU
        refine stay _ _ _ _ el fr to_ at_ went K hX hM hE (by omega) hno (fun hY hM1 => ?_)
        have hM2 := hM1
        obtain ⟨wrong, pS, pL, oN, oC, S, L, oS, oL, labs, row, fresh, piece, closed, faces, comp, fof, sides, side, free, arnd, rfl, hR, hS, hG, hPR, hPS, hPG⟩ := hM1
        have hn := hR.1
        have hFF := ff_le (by omega) (perm_D hE) (Nat.le_refl (4 * n))
        refine zi_iload_n O d_Mod_simplify_4 rfl ?_
        refine zi_aload_n O d_Mod_simplify_5 rfl ?_
        refine zi_selfV O c_Mod_142 k_Mod_allFaces (m_Mod_allFaces hR (sg_same hG hS) (ed_same hE (fun _ _ => rfl) hS)) d_Mod_simplify_6 ⟨(Nat.le_of_ble_eq_true rfl), (Nat.le_of_ble_eq_true rfl)⟩ ⟨(Nat.le_of_ble_eq_true rfl), (Nat.le_of_ble_eq_true rfl)⟩ rfl rfl (Nat.le_of_ble_eq_true rfl) rfl rfl rfl (Nat.le_of_ble_eq_true rfl) rfl (fun r h' hq hl => ?_)
        obtain ⟨rfl, row', fof', rfl⟩ := hq
        refine zi_st (st' := [.int (nI (FF (nxD fr to_ at_) (4 * n) (4 * n)).2), .int (nI K)]) rfl ?_
        refine zi_icmp_geN O 37 d_Mod_simplify_9 (by decide) (by omega) (by omega) (fun c9 => ?_) (fun c9 => ?_)
        · omega
        · refine zi_aload_n O d_Mod_simplify_12 rfl ?_
          refine zi_iload_n O d_Mod_simplify_13 rfl ?_
          rcases hcase with ⟨hp, rfl, rfl, rfl, rfl, rfl⟩ | ⟨hp, rfl, a, b, ha, hb, rfl, rfl, rfl, rfl⟩
          · refine zi_selfV O c_Mod_183 k_Mod_undo (m_Mod_undo_1 ⟨_, _, _, _, _, _, _, _, _, _, _, _, _, _, _, _, _, _, _, _, _, rfl, hR, hS, hG, hPR, hPS, hPG⟩ hE K l t hK hF hp) d_Mod_simplify_14 ⟨(Nat.le_of_ble_eq_true rfl), (Nat.le_of_ble_eq_true rfl)⟩ ⟨(Nat.le_of_ble_eq_true rfl), (Nat.le_of_ble_eq_true rfl)⟩ rfl rfl (Nat.le_of_ble_eq_true rfl) rfl rfl rfl (Nat.le_of_ble_eq_true rfl) rfl (fun r h' hq hl => ?_)
            obtain ⟨rfl, hM3⟩ := hq
            refine zi_st (st' := [.int (nI 1)]) rfl ?_
            refine zi_istore_n (ls' := _ :: _ :: _ :: some _ :: _) O d_Mod_simplify_17 rfl (by decide) rfl ?_
            refine zi_iload_n O d_Mod_simplify_18 rfl ?_
            refine zi_iload_n O d_Mod_simplify_19 rfl ?_
            first | refine zi_iaddN O d_Mod_simplify_20 ?_ | refine zi_iadd O d_Mod_simplify_20 ?_
            refine zi_istore_n (ls' := _ :: some _ :: _) O d_Mod_simplify_21 rfl (by decide) rfl ?_
            refine zi_iload_n O d_Mod_simplify_22 rfl ?_
            refine zi_if_le O 30 d_Mod_simplify_23 (by decide) (fun c23 => ?_) (fun c23 => ?_)
            · exact absurd c23 (by decide)
            · refine zi_iconstN O 0 d_Mod_simplify_26 (by decide) ?_
              refine zi_goto O 33 d_Mod_simplify_27 (by decide) ?_
              refine zi_istore_n (ls' := _ :: _ :: some _ :: _) O d_Mod_simplify_33 rfl (by decide) rfl ?_
              refine zi_goto O 4 d_Mod_simplify_34 (by decide) ?_
              refine zi_no 3 (ls' := _ :: _ :: _ :: none :: _) rfl ?_
              exact ihf _ _ _ _ (went + 1) g2 h' hM3 hs (by omega)
          · refine zi_selfV O c_Mod_183 k_Mod_undo (m_Mod_undo_2 ⟨_, _, _, _, _, _, _, _, _, _, _, _, _, _, _, _, _, _, _, _, _, rfl, hR, hS, hG, hPR, hPS, hPG⟩ hE K l t hK hF a b hp ha hb) d_Mod_simplify_14 ⟨(Nat.le_of_ble_eq_true rfl), (Nat.le_of_ble_eq_true rfl)⟩ ⟨(Nat.le_of_ble_eq_true rfl), (Nat.le_of_ble_eq_true rfl)⟩ rfl rfl (Nat.le_of_ble_eq_true rfl) rfl rfl rfl (Nat.le_of_ble_eq_true rfl) rfl (fun r h' hq hl => ?_)
            obtain ⟨rfl, hM3⟩ := hq
            refine zi_st (st' := [.int (nI 2)]) rfl ?_
            refine zi_istore_n (ls' := _ :: _ :: _ :: some _ :: _) O d_Mod_simplify_17 rfl (by decide) rfl ?_
            refine zi_iload_n O d_Mod_simplify_18 rfl ?_
            refine zi_iload_n O d_Mod_simplify_19 rfl ?_
            first | refine zi_iaddN O d_Mod_simplify_20 ?_ | refine zi_iadd O d_Mod_simplify_20 ?_
            refine zi_istore_n (ls' := _ :: some _ :: _) O d_Mod_simplify_21 rfl (by decide) rfl ?_
            refine zi_iload_n O d_Mod_simplify_22 rfl ?_
            refine zi_if_le O 30 d_Mod_simplify_23 (by decide) (fun c23 => ?_) (fun c23 => ?_)
            · exact absurd c23 (by decide)
            · refine zi_iconstN O 0 d_Mod_simplify_26 (by decide) ?_
              refine zi_goto O 33 d_Mod_simplify_27 (by decide) ?_
              refine zi_istore_n (ls' := _ :: _ :: some _ :: _) O d_Mod_simplify_33 rfl (by decide) rfl ?_
              refine zi_goto O 4 d_Mod_simplify_34 (by decide) ?_
              refine zi_no 3 (ls' := _ :: _ :: _ :: none :: _) rfl ?_
              exact ihf _ _ _ _ (went + 2) g2 h' hM3 hs (by omega)
  refine zi_iconstN O 0 d_Mod_simplify_0 (by decide) ?_
  refine zi_istore_n (ls' := _ :: some _ :: _) O d_Mod_simplify_1 rfl (by decide) rfl ?_
  refine zi_iconstN O 0 d_Mod_simplify_2 (by decide) ?_
  refine zi_istore_n (ls' := _ :: _ :: some _ :: _) O d_Mod_simplify_3 rfl (by decide) rfl ?_
  exact key 20 n lab S0 ci 0 g h hM hs (by omega)
end
