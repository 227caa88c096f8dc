/-! The model: push -/
theorem ed_up {n : Nat} {lab : Nat → Nat} {S : Nat → Int32} {l v : Nat} {q o : Nat} (hq : lab q ≠ l) (hv : v ≠ l) : ∀ N, plc (va_up lab q v) S l o N = plc lab S l o N
  | 0 => rfl
  | N + 1 => by
    rw [plc, plc, ed_up (n := n) hq hv N]
    have : (va_up lab q v N = l) ↔ (lab N = l) := by
      unfold va_up
      split
      · next c => rw [c]; exact ⟨fun z => absurd z hv, fun z => absurd z hq⟩
      · exact Iff.rfl
    by_cases c : lab N = l ∧ zb (¬ gi S N) = nI o
    · rw [if_pos c, if_pos ⟨this.mpr c.1, c.2⟩]
    · rw [if_neg c, if_neg (fun z => c ⟨this.mp z.1, z.2⟩)]
section
variable {k n : Nat} {plab lab : Nat → Nat} {T S0 : Nat → Int32} {ci : Int32} {h : List zE} {el fr to_ at_ oc : Nat → Nat}
set_option maxHeartbeats 4000000 in
theorem m_Mod_push_000 (hM : Mdl k plab T n lab S0 ci h) (hE : Ed n lab S0 el fr to_ at_) (hP : PcE (2 * n) n fr to_ oc) (x y : Int32) (u v w z : Nat) (hu : u = fN el 0 (2 * n)) (hv : v = fN el u (2 * n)) (hw : w = fN el v (2 * n)) (hzz : z = fN el w (2 * n)) : zMet y_Mod_push b_Mod_push 11 (some .boolean) ⟨7, 0, 0, 200⟩ [.ref 0, .int x, .int (bI false), .int y, .int (bI false), .int (bI false)] h
    (fun r h' => (r = some (.int (nI 0)) ∧ Mdl k plab T n lab S0 ci h' ∧ ∀ e f, ¬ PushOK n el fr to_ at_ oc x y false false e f) ∨ (∃ e f, PushOK n el fr to_ at_ oc x y false false e f ∧ r = some (.int (nI 1)) ∧ Mdl k plab T (n + 1 + 1) (phL false true true (va_up (va_up lab (to_ e) v) (to_ f) z) n (el e) u v (el f) w z) (upd (upd S0 n (phS false true true)) (n + 1) (-(phS false true true))) ci h')) := by
  have hM0 := hM
  obtain ⟨wrong, pS, pL, oN, oC, S, L, oS, oL, labs, row, fresh, piece, closed, faces, comp, fof, sides, side, free, arnd, rfl, hR, hS, hG, hPR, hPS, hPG⟩ := hM
  have hn := hR.1
  have hE' := ed_same hE (fun _ _ => rfl) hS
  have hG' := sg_same hG hS
  have bu := fN_le el 0 (2 * n)
  have bv := fN_le el u (2 * n)
  have bw := fN_le el v (2 * n)
  have bz := fN_le el w (2 * n)
  rw [← hu] at bu
  rw [← hv] at bv
  rw [← hw] at bw
  rw [← hzz] at bz
  refine zMet_of (plainFor_of_name (by decide +kernel)) rfl (Nat.le_of_ble_eq_true rfl) (fun z1 z2 z3 z4 z5 z6 z7 z8 z9 z10 z11 z12 z13 z14 O hin => ?_)
  refine zi_ls (ls' := [some (.ref 0), some (.int x), some (.int (bI false)), some (.int y), some (.int (bI false)), some (.int (bI false)), none, none, none, none, none]) rfl ?_
  have bad : (∀ e f, ¬ PushOK n el fr to_ at_ oc x y false false e f) → zG z1 z2 z3 z4 z5 z6 z7 z8 z9 z10 z11 z12 z13 z14 15 11 (fun r h' => (r = some (.int (nI 0)) ∧ Mdl k plab T n lab S0 ci h' ∧ ∀ e f, ¬ PushOK n el fr to_ at_ oc x y false false e f) ∨ (∃ e f, PushOK n el fr to_ at_ oc x y false false e f ∧ r = some (.int (nI 1)) ∧ Mdl k plab T (n + 1 + 1) (phL false true true (va_up (va_up lab (to_ e) v) (to_ f) z) n (el e) u v (el f) w z) (upd (upd S0 n (phS false true true)) (n + 1) (-(phS false true true))) ci h')) 0 0 0 0 35 [some (.ref 0), some (.int x), some (.int (bI false)), some (.int y), some (.int (bI false)), some (.int (bI false)), none, none, none, none, none] [] (mh k wrong pS pL n ci oN oC S L oS oL labs row fresh piece closed faces comp fof sides side free arnd) := by
    intro hno
    refine zi_iconstN O 0 d_Mod_push_35 (by decide) ?_
    refine zi_istore (ls' := _ :: _ :: _ :: _ :: _ :: _ :: some _ :: _) O d_Mod_push_36 rfl (by decide) rfl ?_
    refine zi_iload O d_Mod_push_38 rfl ?_
    refine zi_if_eq O 80 d_Mod_push_40 (by decide) (fun c40 => ?_) (fun c40 => ?_)
    · refine zi_iconstN O 0 d_Mod_push_80 (by decide) ?_
      refine zi_zret O d_Mod_push_81 rfl (Nat.le_of_ble_eq_true rfl) (Nat.le_of_ble_eq_true rfl) (Nat.le_of_ble_eq_true rfl) ?_
      exact Or.inl ⟨rfl, hM0, hno⟩
    · exact absurd rfl c40
  refine zi_iload_n O d_Mod_push_0 rfl ?_
  refine zi_if_le O 35 d_Mod_push_1 (by decide) (fun c1 => ?_) (fun c1 => ?_)
  · refine bad (fun e f q => ?_)
    have := el_ok hR hE q.1
    rw [q.2.2.1] at c1
    exact nI_nle (by omega) (by omega) c1
  obtain ⟨l, rfl, hl1, hl2⟩ := pos_nat c1
  refine zi_iload_n O d_Mod_push_4 rfl ?_
  refine zi_if_le O 35 d_Mod_push_5 (by decide) (fun c5 => ?_) (fun c5 => ?_)
  · refine bad (fun e f q => ?_)
    have := el_ok hR hE q.2.1
    rw [q.2.2.2.1] at c5
    exact nI_nle (by omega) (by omega) c5
  obtain ⟨m, rfl, hm1, hm2⟩ := pos_nat c5
  refine zi_iload_n O d_Mod_push_8 rfl ?_
  refine zi_iload_n O d_Mod_push_9 rfl ?_
  refine zi_icmp_eq O 35 d_Mod_push_10 (by decide) (fun c10 => ?_) (fun c10 => ?_)
  · refine bad (fun e f q => ?_)
    exact q.2.2.2.2.1 (el_uniq hR hE q.1 q.2.1 (by rw [← q.2.2.1, ← q.2.2.2.1]; exact c10))
  refine zi_aload_n O d_Mod_push_13 rfl ?_
  refine zi_iload_n O d_Mod_push_14 rfl ?_
  refine zi_iconstN O 1 d_Mod_push_15 (by decide) ?_
  refine zi_selfP O c_Mod_66 k_Mod_placeOf (m_Mod_placeOf lab hR hG' l 1 hl2) d_Mod_push_16 ⟨(Nat.le_of_ble_eq_true rfl), (Nat.le_of_ble_eq_true rfl)⟩ ⟨(Nat.le_of_ble_eq_true rfl), (Nat.le_of_ble_eq_true rfl)⟩ rfl rfl (Nat.le_of_ble_eq_true rfl) rfl rfl rfl (Nat.le_of_ble_eq_true rfl) rfl ?_
  by_cases c : ∃ e, e < 2 * n ∧ el e = l
  rotate_left
  · rw [plc_no hE' (fun e he z => c ⟨e, he, z⟩)]
    refine zi_if_lt O 35 d_Mod_push_19 (by decide) (fun c19 => ?_) (fun c19 => ?_)
    · refine bad (fun e f q => c ⟨e, q.1, ?_⟩)
      have := el_ok hR hE q.1
      exact ((nI_eq (by omega) (by omega)).mp q.2.2.1).symm
    · exact absurd (by decide) c19
  obtain ⟨e, he, rfl⟩ := c
  obtain ⟨f1, f2, f3, f4, f5, f6⟩ := hE.1 e he
  rw [plc_fr hE' he]
  refine zi_if_lt O 35 d_Mod_push_19 (by decide) (fun c19 => ?_) (fun c19 => ?_)
  · exact absurd c19 (nI_pos (by omega))
  refine zi_aload_n O d_Mod_push_22 rfl ?_
  refine zi_iload_n O d_Mod_push_23 rfl ?_
  refine zi_iconstN O 1 d_Mod_push_24 (by decide) ?_
  refine zi_selfP O c_Mod_66 k_Mod_placeOf (m_Mod_placeOf lab hR hG' m 1 hm2) d_Mod_push_25 ⟨(Nat.le_of_ble_eq_true rfl), (Nat.le_of_ble_eq_true rfl)⟩ ⟨(Nat.le_of_ble_eq_true rfl), (Nat.le_of_ble_eq_true rfl)⟩ rfl rfl (Nat.le_of_ble_eq_true rfl) rfl rfl rfl (Nat.le_of_ble_eq_true rfl) rfl ?_
  by_cases c : ∃ e, e < 2 * n ∧ el e = m
  rotate_left
  · rw [plc_no hE' (fun e he z => c ⟨e, he, z⟩)]
    refine zi_if_lt O 35 d_Mod_push_28 (by decide) (fun c28 => ?_) (fun c28 => ?_)
    · refine bad (fun e f q => c ⟨f, q.2.1, ?_⟩)
      have := el_ok hR hE q.2.1
      exact ((nI_eq (by omega) (by omega)).mp q.2.2.2.1).symm
    · exact absurd (by decide) c28
  obtain ⟨f, hf, rfl⟩ := c
  obtain ⟨g1, g2, g3, g4, g5, g6⟩ := hE.1 f hf
  rw [plc_fr hE' hf]
  refine zi_if_lt O 35 d_Mod_push_28 (by decide) (fun c28 => ?_) (fun c28 => ?_)
  · exact absurd c28 (nI_pos (by omega))
  have hef : e ≠ f := fun q => c10 (by rw [q])
  have only : ∀ e' f', PushOK n el fr to_ at_ oc (nI (el e)) (nI (el f)) false false e' f' → e' = e ∧ f' = f := fun e' f' q => ⟨(el_uniq hR hE he q.1 q.2.2.1).symm, (el_uniq hR hE hf q.2.1 q.2.2.2.1).symm⟩
  refine zi_iconstN O 1 d_Mod_push_31 (by decide) ?_
  refine zi_goto O 36 d_Mod_push_32 (by decide) ?_
  refine zi_istore (ls' := _ :: _ :: _ :: _ :: _ :: _ :: some _ :: _) O d_Mod_push_36 rfl (by decide) rfl ?_
  refine zi_iload O d_Mod_push_38 rfl ?_
  refine zi_if_eq O 80 d_Mod_push_40 (by decide) (fun c40 => ?_) (fun c40 => ?_)
  · exact absurd c40 (by decide)
  refine zi_aload_n O d_Mod_push_43 rfl ?_
  refine zi_get O f_Mod_59 d_Mod_push_44 rfl rfl ?_
  refine zi_bipushN O 18 d_Mod_push_47 (by decide) ?_
  refine zi_icmp_gtN O 80 d_Mod_push_49 (by decide) (by omega) (by omega) (fun c49 => ?_) (fun c49 => ?_)
  · refine zi_iconstN O 0 d_Mod_push_80 (by decide) ?_
    refine zi_zret O d_Mod_push_81 rfl (Nat.le_of_ble_eq_true rfl) (Nat.le_of_ble_eq_true rfl) (Nat.le_of_ble_eq_true rfl) ?_
    exact Or.inl ⟨rfl, hM0, fun e f q => by have := q.2.2.2.2.2.1; omega⟩
  refine zi_aload_n O d_Mod_push_52 rfl ?_
  refine zi_iload_n O d_Mod_push_53 rfl ?_
  refine zi_iload_n O d_Mod_push_54 rfl ?_
  refine zi_if_eq O 62 d_Mod_push_55 (by decide) (fun c55 => ?_) (fun c55 => ?_)
  rotate_left
  · exact absurd rfl c55
  refine zi_iconstN O 0 d_Mod_push_62 (by decide) ?_
  refine zi_iload_n O d_Mod_push_63 rfl ?_
  refine zi_iload O d_Mod_push_64 rfl ?_
  refine zi_if_eq O 73 d_Mod_push_66 (by decide) (fun c66 => ?_) (fun c66 => ?_)
  rotate_left
  · exact absurd rfl c66
  refine zi_iconstN O 0 d_Mod_push_73 (by decide) ?_
  refine zi_selfV O c_Mod_190 k_Mod_areOne (m_Mod_areOne hR hG' hE' hP e f 0 0 he hf (by decide) (by decide)) d_Mod_push_74 ⟨(Nat.le_of_ble_eq_true rfl), (Nat.le_of_ble_eq_true rfl)⟩ ⟨(Nat.le_of_ble_eq_true rfl), (Nat.le_of_ble_eq_true rfl)⟩ rfl rfl (Nat.le_of_ble_eq_true rfl) rfl rfl rfl (Nat.le_of_ble_eq_true rfl) rfl (fun r h' hq hl => ?_)
  obtain ⟨hq, row', fof', piece', rfl⟩ := hq
  rcases hq with ⟨rfl, hmt⟩ | ⟨rfl, hmt⟩
  rotate_left
  · refine zi_st (st' := [.int (nI 0)]) rfl ?_
    refine zi_if_ne O 82 d_Mod_push_77 (by decide) (fun c77 => ?_) (fun c77 => ?_)
    · exact absurd rfl c77
    · refine zi_iconstN O 0 d_Mod_push_80 (by decide) ?_
      refine zi_zret O d_Mod_push_81 rfl (Nat.le_of_ble_eq_true rfl) (Nat.le_of_ble_eq_true rfl) (Nat.le_of_ble_eq_true rfl) ?_
      refine Or.inl ⟨rfl, ⟨_, _, _, _, _, _, _, _, _, _, _, _, _, _, _, _, _, _, _, _, _, rfl, hR, hS, hG, hPR, hPS, hPG⟩, fun e' f' q => ?_⟩
      obtain ⟨rfl, rfl⟩ := only e' f' q
      exact hmt q.2.2.2.2.2.2
  refine zi_st (st' := [.int (nI 1)]) rfl ?_
  refine zi_if_ne O 82 d_Mod_push_77 (by decide) (fun c77 => ?_) (fun c77 => ?_)
  rotate_left
  · exact absurd c77 (by decide)
  have hok : PushOK n el fr to_ at_ oc (nI (el e)) (nI (el f)) false false e f := ⟨he, hf, rfl, rfl, hef, by omega, hmt⟩
  refine zi_aload_n O d_Mod_push_82 rfl ?_
  refine zi_selfV O c_Mod_136 k_Mod_findFree (m_Mod_findFree hR hE') d_Mod_push_83 ⟨(Nat.le_of_ble_eq_true rfl), (Nat.le_of_ble_eq_true rfl)⟩ ⟨(Nat.le_of_ble_eq_true rfl), (Nat.le_of_ble_eq_true rfl)⟩ rfl rfl (Nat.le_of_ble_eq_true rfl) rfl rfl rfl (Nat.le_of_ble_eq_true rfl) rfl (fun r h' hq hl => ?_)
  obtain ⟨rfl, row'', free', rfl, -, hfr⟩ := hq
  refine zi_st (st' := []) rfl ?_
  have e0 : free' 0 = nI u := by rw [hfr 0 (by decide), hu]; rfl
  have e1 : free' 1 = nI v := by rw [hfr 1 (by decide), hv, hu]; rfl
  have e2 : free' 2 = nI w := by rw [hfr 2 (by decide), hw, hv, hu]; rfl
  have e3 : free' 3 = nI z := by rw [hfr 3 (by decide), hzz, hw, hv, hu]; rfl
  have be := el_ok hR hE he
  have bf := el_ok hR hE hf
  refine zi_aload_n O d_Mod_push_86 rfl ?_
  refine zi_iload_n O d_Mod_push_87 rfl ?_
  refine zi_iconstN O 0 d_Mod_push_88 (by decide) ?_
  refine zi_selfP O c_Mod_66 k_Mod_placeOf (m_Mod_to hR hG' hE' he) d_Mod_push_89 ⟨(Nat.le_of_ble_eq_true rfl), (Nat.le_of_ble_eq_true rfl)⟩ ⟨(Nat.le_of_ble_eq_true rfl), (Nat.le_of_ble_eq_true rfl)⟩ rfl rfl (Nat.le_of_ble_eq_true rfl) rfl rfl rfl (Nat.le_of_ble_eq_true rfl) rfl ?_
  refine zi_istore (ls' := _ :: _ :: _ :: _ :: _ :: _ :: _ :: some _ :: _) O d_Mod_push_92 rfl (by decide) rfl ?_
  refine zi_aload_n O d_Mod_push_94 rfl ?_
  refine zi_iload_n O d_Mod_push_95 rfl ?_
  refine zi_iconstN O 0 d_Mod_push_96 (by decide) ?_
  refine zi_selfP O c_Mod_66 k_Mod_placeOf (m_Mod_to hR hG' hE' hf) d_Mod_push_97 ⟨(Nat.le_of_ble_eq_true rfl), (Nat.le_of_ble_eq_true rfl)⟩ ⟨(Nat.le_of_ble_eq_true rfl), (Nat.le_of_ble_eq_true rfl)⟩ rfl rfl (Nat.le_of_ble_eq_true rfl) rfl rfl rfl (Nat.le_of_ble_eq_true rfl) rfl ?_
  refine zi_istore (ls' := _ :: _ :: _ :: _ :: _ :: _ :: _ :: _ :: some _ :: _) O d_Mod_push_100 rfl (by decide) rfl ?_
  refine zi_aload_n O d_Mod_push_102 rfl ?_
  refine zi_get O f_Mod_23 d_Mod_push_103 rfl rfl ?_
  refine zi_iload O d_Mod_push_106 rfl ?_
  refine zi_aload_n O d_Mod_push_108 rfl ?_
  refine zi_get O f_Mod_50 d_Mod_push_109 rfl rfl ?_
  refine zi_iconstN O 1 d_Mod_push_112 (by decide) ?_
  refine zi_iald O d_Mod_push_113 rfl rfl (by omega) (Nat.le_of_ble_eq_true rfl) ?_
  rw [e1]
  refine zi_iast O d_Mod_push_114 rfl rfl (by omega) (Nat.le_of_ble_eq_true rfl) (by dsimp only [List.set]) ?_
  refine zi_aload_n O d_Mod_push_115 rfl ?_
  refine zi_get O f_Mod_23 d_Mod_push_116 rfl rfl ?_
  refine zi_iload O d_Mod_push_119 rfl ?_
  refine zi_aload_n O d_Mod_push_121 rfl ?_
  refine zi_get O f_Mod_50 d_Mod_push_122 rfl rfl ?_
  refine zi_iconstN O 3 d_Mod_push_125 (by decide) ?_
  refine zi_iald O d_Mod_push_126 rfl rfl (by omega) (Nat.le_of_ble_eq_true rfl) ?_
  rw [e3]
  refine zi_iast O d_Mod_push_127 rfl rfl (by omega) (Nat.le_of_ble_eq_true rfl) (by dsimp only [List.set]) ?_
  refine zi_aload_n O d_Mod_push_128 rfl ?_
  refine zi_get O f_Mod_53 d_Mod_push_129 rfl rfl ?_
  refine zi_iconstN O 0 d_Mod_push_132 (by decide) ?_
  refine zi_aload_n O d_Mod_push_133 rfl ?_
  refine zi_get O f_Mod_50 d_Mod_push_134 rfl rfl ?_
  refine zi_iconstN O 2 d_Mod_push_137 (by decide) ?_
  refine zi_iald O d_Mod_push_138 rfl rfl (by omega) (Nat.le_of_ble_eq_true rfl) ?_
  rw [e2]
  refine zi_iast O d_Mod_push_139 rfl rfl (by omega) (Nat.le_of_ble_eq_true rfl) (by dsimp only [List.set]) ?_
  refine zi_aload_n O d_Mod_push_140 rfl ?_
  refine zi_get O f_Mod_53 d_Mod_push_141 rfl rfl ?_
  refine zi_iconstN O 1 d_Mod_push_144 (by decide) ?_
  refine zi_aload_n O d_Mod_push_145 rfl ?_
  refine zi_get O f_Mod_50 d_Mod_push_146 rfl rfl ?_
  refine zi_iconstN O 0 d_Mod_push_149 (by decide) ?_
  refine zi_iald O d_Mod_push_150 rfl rfl (by omega) (Nat.le_of_ble_eq_true rfl) ?_
  rw [e0]
  refine zi_iast O d_Mod_push_151 rfl rfl (by omega) (Nat.le_of_ble_eq_true rfl) (by dsimp only [List.set]) ?_
  refine zi_aload_n O d_Mod_push_152 rfl ?_
  refine zi_get O f_Mod_53 d_Mod_push_153 rfl rfl ?_
  refine zi_iconstN O 2 d_Mod_push_156 (by decide) ?_
  refine zi_iload O d_Mod_push_157 rfl ?_
  refine zi_if_eq O 166 d_Mod_push_159 (by decide) (fun c159 => ?_) (fun c159 => ?_)
  rotate_left
  · exact absurd rfl c159
  refine zi_aload_n O d_Mod_push_166 rfl ?_
  refine zi_get O f_Mod_50 d_Mod_push_167 rfl rfl ?_
  refine zi_iconstN O 3 d_Mod_push_170 (by decide) ?_
  refine zi_iald O d_Mod_push_171 rfl rfl (by omega) (Nat.le_of_ble_eq_true rfl) ?_
  rw [e3]
  refine zi_iast O d_Mod_push_172 rfl rfl (by omega) (Nat.le_of_ble_eq_true rfl) (by dsimp only [List.set]) ?_
  refine zi_aload_n O d_Mod_push_173 rfl ?_
  refine zi_get O f_Mod_53 d_Mod_push_174 rfl rfl ?_
  refine zi_iconstN O 3 d_Mod_push_177 (by decide) ?_
  refine zi_iload_n O d_Mod_push_178 rfl ?_
  refine zi_if_eq O 191 d_Mod_push_179 (by decide) (fun c179 => ?_) (fun c179 => ?_)
  rotate_left
  · exact absurd rfl c179
  refine zi_iload_n O d_Mod_push_191 rfl ?_
  refine zi_iast O d_Mod_push_192 rfl rfl (by omega) (Nat.le_of_ble_eq_true rfl) (by dsimp only [List.set]) ?_
  refine zi_iload_n O d_Mod_push_193 rfl ?_
  refine zi_if_eq O 201 d_Mod_push_194 (by decide) (fun c194 => ?_) (fun c194 => ?_)
  rotate_left
  · exact absurd rfl c194
  refine zi_iconstN O 3 d_Mod_push_201 (by decide) ?_
  refine zi_istore (ls' := _ :: _ :: _ :: _ :: _ :: _ :: _ :: _ :: _ :: some _ :: _) O d_Mod_push_202 rfl (by decide) rfl ?_
  refine zi_iload O d_Mod_push_204 rfl ?_
  refine zi_if_eq O 213 d_Mod_push_206 (by decide) (fun c206 => ?_) (fun c206 => ?_)
  rotate_left
  · exact absurd rfl c206
  refine zi_iconstN O 0 d_Mod_push_213 (by decide) ?_
  refine zi_istore (ls' := _ :: _ :: _ :: _ :: _ :: _ :: _ :: _ :: _ :: _ :: some _ :: _) O d_Mod_push_214 rfl (by decide) rfl ?_
  refine zi_aload_n O d_Mod_push_216 rfl ?_
  refine zi_iload O d_Mod_push_217 rfl ?_
  refine zi_if_eq O 227 d_Mod_push_219 (by decide) (fun c219 => ?_) (fun c219 => ?_)
  rotate_left
  · exact absurd rfl c219
  refine zi_iload O d_Mod_push_227 rfl ?_
  refine zi_iload O d_Mod_push_229 rfl ?_
  refine zi_if_eq O 239 d_Mod_push_231 (by decide) (fun c231 => ?_) (fun c231 => ?_)
  rotate_left
  · exact absurd rfl c231
  refine zi_iload O d_Mod_push_239 rfl ?_
  refine zi_selfV O c_Mod_194 k_Mod_cross (m_Mod_cross (by omega) 3 0 (by decide) (by decide)) d_Mod_push_241 ⟨(Nat.le_of_ble_eq_true rfl), (Nat.le_of_ble_eq_true rfl)⟩ ⟨(Nat.le_of_ble_eq_true rfl), (Nat.le_of_ble_eq_true rfl)⟩ rfl rfl (Nat.le_of_ble_eq_true rfl) rfl rfl rfl (Nat.le_of_ble_eq_true rfl) rfl (fun r h' hq hl => ?_)
  obtain ⟨rfl, rfl⟩ := hq
  refine zi_st (st' := []) rfl ?_
  refine zi_aload_n O d_Mod_push_244 rfl ?_
  refine zi_get O f_Mod_53 d_Mod_push_245 rfl rfl ?_
  refine zi_iconstN O 0 d_Mod_push_248 (by decide) ?_
  refine zi_aload_n O d_Mod_push_249 rfl ?_
  refine zi_get O f_Mod_50 d_Mod_push_250 rfl rfl ?_
  refine zi_iconstN O 2 d_Mod_push_253 (by decide) ?_
  refine zi_iald O d_Mod_push_254 rfl rfl (by omega) (Nat.le_of_ble_eq_true rfl) ?_
  rw [e2]
  refine zi_iast O d_Mod_push_255 rfl rfl (by omega) (Nat.le_of_ble_eq_true rfl) (by dsimp only [List.set]) ?_
  refine zi_aload_n O d_Mod_push_256 rfl ?_
  refine zi_get O f_Mod_53 d_Mod_push_257 rfl rfl ?_
  refine zi_iconstN O 1 d_Mod_push_260 (by decide) ?_
  refine zi_iload_n O d_Mod_push_261 rfl ?_
  refine zi_if_eq O 269 d_Mod_push_262 (by decide) (fun c262 => ?_) (fun c262 => ?_)
  rotate_left
  · exact absurd rfl c262
  refine zi_aload_n O d_Mod_push_269 rfl ?_
  refine zi_get O f_Mod_50 d_Mod_push_270 rfl rfl ?_
  refine zi_iconstN O 1 d_Mod_push_273 (by decide) ?_
  refine zi_iald O d_Mod_push_274 rfl rfl (by omega) (Nat.le_of_ble_eq_true rfl) ?_
  rw [e1]
  refine zi_iast O d_Mod_push_275 rfl rfl (by omega) (Nat.le_of_ble_eq_true rfl) (by dsimp only [List.set]) ?_
  refine zi_aload_n O d_Mod_push_276 rfl ?_
  refine zi_get O f_Mod_53 d_Mod_push_277 rfl rfl ?_
  refine zi_iconstN O 2 d_Mod_push_280 (by decide) ?_
  refine zi_iload O d_Mod_push_281 rfl ?_
  refine zi_if_eq O 295 d_Mod_push_283 (by decide) (fun c283 => ?_) (fun c283 => ?_)
  rotate_left
  · exact absurd rfl c283
  refine zi_iload_n O d_Mod_push_295 rfl ?_
  refine zi_iast O d_Mod_push_296 rfl rfl (by omega) (Nat.le_of_ble_eq_true rfl) (by dsimp only [List.set]) ?_
  refine zi_aload_n O d_Mod_push_297 rfl ?_
  refine zi_get O f_Mod_53 d_Mod_push_298 rfl rfl ?_
  refine zi_iconstN O 3 d_Mod_push_301 (by decide) ?_
  refine zi_aload_n O d_Mod_push_302 rfl ?_
  refine zi_get O f_Mod_50 d_Mod_push_303 rfl rfl ?_
  refine zi_iconstN O 0 d_Mod_push_306 (by decide) ?_
  refine zi_iald O d_Mod_push_307 rfl rfl (by omega) (Nat.le_of_ble_eq_true rfl) ?_
  rw [e0]
  refine zi_iast O d_Mod_push_308 rfl rfl (by omega) (Nat.le_of_ble_eq_true rfl) (by dsimp only [List.set]) ?_
  refine zi_iload O d_Mod_push_309 rfl ?_
  refine zi_if_eq O 318 d_Mod_push_311 (by decide) (fun c311 => ?_) (fun c311 => ?_)
  rotate_left
  · exact absurd rfl c311
  refine zi_iconstN O 2 d_Mod_push_318 (by decide) ?_
  refine zi_istore (ls' := _ :: _ :: _ :: _ :: _ :: _ :: _ :: _ :: _ :: _ :: some _ :: _) O d_Mod_push_319 rfl (by decide) rfl ?_
  refine zi_aload_n O d_Mod_push_321 rfl ?_
  refine zi_iload O d_Mod_push_322 rfl ?_
  refine zi_if_eq O 332 d_Mod_push_324 (by decide) (fun c324 => ?_) (fun c324 => ?_)
  rotate_left
  · exact absurd rfl c324
  refine zi_iload O d_Mod_push_332 rfl ?_
  refine zi_iload O d_Mod_push_334 rfl ?_
  refine zi_if_eq O 344 d_Mod_push_336 (by decide) (fun c336 => ?_) (fun c336 => ?_)
  rotate_left
  · exact absurd rfl c336
  refine zi_iload O d_Mod_push_344 rfl ?_
  refine zi_selfV O c_Mod_194 k_Mod_cross (m_Mod_cross (by omega) 3 2 (by decide) (by decide)) d_Mod_push_346 ⟨(Nat.le_of_ble_eq_true rfl), (Nat.le_of_ble_eq_true rfl)⟩ ⟨(Nat.le_of_ble_eq_true rfl), (Nat.le_of_ble_eq_true rfl)⟩ rfl rfl (Nat.le_of_ble_eq_true rfl) rfl rfl rfl (Nat.le_of_ble_eq_true rfl) rfl (fun r h' hq hl => ?_)
  obtain ⟨rfl, rfl⟩ := hq
  refine zi_st (st' := []) rfl ?_
  refine zi_iconstN O 1 d_Mod_push_349 (by decide) ?_
  refine zi_zret O d_Mod_push_350 rfl (Nat.le_of_ble_eq_true rfl) (Nat.le_of_ble_eq_true rfl) (Nat.le_of_ble_eq_true rfl) ?_
  have hR2 := rowOK_up (rowOK_up hR (to_ e) v (by omega)) (to_ f) z (by omega)
  refine Or.inr ⟨e, f, hok, rfl, _, _, _, _, _, _, _, _, _, _, _, _, _, _, _, _, _, _, _, _, _, rfl, ?_, sg_upd (sg_upd hS _) _, sg_add (sg_add hG (by decide)) (by decide), hPR, hPS, hPG⟩
  exact rowOK_ad (l0 := u) (l1 := w) (l2 := v) (l3 := el f) (rowOK_ad (l0 := el e) (l1 := w) (l2 := u) (l3 := z) hR2 (by omega) (by omega) (by omega) (by omega) (by omega)) (by omega) (by omega) (by omega) (by omega) (by omega)
set_option maxHeartbeats 4000000 in
theorem m_Mod_push_001 (hM : Mdl k plab T n lab S0 ci h) (hE : Ed n lab S0 el fr to_ at_) (hP : PcE (2 * n) n fr to_ oc) (x y : Int32) (u v w z : Nat) (hu : u = fN el 0 (2 * n)) (hv : v = fN el u (2 * n)) (hw : w = fN el v (2 * n)) (hzz : z = fN el w (2 * n)) : zMet y_Mod_push b_Mod_push 11 (some .boolean) ⟨7, 0, 0, 200⟩ [.ref 0, .int x, .int (bI false), .int y, .int (bI false), .int (bI true)] h
    (fun r h' => (r = some (.int (nI 0)) ∧ Mdl k plab T n lab S0 ci h' ∧ ∀ e f, ¬ PushOK n el fr to_ at_ oc x y false false e f) ∨ (∃ e f, PushOK n el fr to_ at_ oc x y false false e f ∧ r = some (.int (nI 1)) ∧ Mdl k plab T (n + 1 + 1) (phL true true true (va_up (va_up lab (to_ e) v) (to_ f) z) n (el e) u v (el f) w z) (upd (upd S0 n (phS true true true)) (n + 1) (-(phS true true true))) ci h')) := by
  have hM0 := hM
  obtain ⟨wrong, pS, pL, oN, oC, S, L, oS, oL, labs, row, fresh, piece, closed, faces, comp, fof, sides, side, free, arnd, rfl, hR, hS, hG, hPR, hPS, hPG⟩ := hM
  have hn := hR.1
  have hE' := ed_same hE (fun _ _ => rfl) hS
  have hG' := sg_same hG hS
  have bu := fN_le el 0 (2 * n)
  have bv := fN_le el u (2 * n)
  have bw := fN_le el v (2 * n)
  have bz := fN_le el w (2 * n)
  rw [← hu] at bu
  rw [← hv] at bv
  rw [← hw] at bw
  rw [← hzz] at bz
  refine zMet_of (plainFor_of_name (by decide +kernel)) rfl (Nat.le_of_ble_eq_true rfl) (fun z1 z2 z3 z4 z5 z6 z7 z8 z9 z10 z11 z12 z13 z14 O hin => ?_)
  refine zi_ls (ls' := [some (.ref 0), some (.int x), some (.int (bI false)), some (.int y), some (.int (bI false)), some (.int (bI true)), none, none, none, none, none]) rfl ?_
  have bad : (∀ e f, ¬ PushOK n el fr to_ at_ oc x y false false e f) → zG z1 z2 z3 z4 z5 z6 z7 z8 z9 z10 z11 z12 z13 z14 15 11 (fun r h' => (r = some (.int (nI 0)) ∧ Mdl k plab T n lab S0 ci h' ∧ ∀ e f, ¬ PushOK n el fr to_ at_ oc x y false false e f) ∨ (∃ e f, PushOK n el fr to_ at_ oc x y false false e f ∧ r = some (.int (nI 1)) ∧ Mdl k plab T (n + 1 + 1) (phL true true true (va_up (va_up lab (to_ e) v) (to_ f) z) n (el e) u v (el f) w z) (upd (upd S0 n (phS true true true)) (n + 1) (-(phS true true true))) ci h')) 0 0 0 0 35 [some (.ref 0), some (.int x), some (.int (bI false)), some (.int y), some (.int (bI false)), some (.int (bI true)), none, none, none, none, none] [] (mh k wrong pS pL n ci oN oC S L oS oL labs row fresh piece closed faces comp fof sides side free arnd) := by
    intro hno
    refine zi_iconstN O 0 d_Mod_push_35 (by decide) ?_
    refine zi_istore (ls' := _ :: _ :: _ :: _ :: _ :: _ :: some _ :: _) O d_Mod_push_36 rfl (by decide) rfl ?_
    refine zi_iload O d_Mod_push_38 rfl ?_
    refine zi_if_eq O 80 d_Mod_push_40 (by decide) (fun c40 => ?_) (fun c40 => ?_)
    · refine zi_iconstN O 0 d_Mod_push_80 (by decide) ?_
      refine zi_zret O d_Mod_push_81 rfl (Nat.le_of_ble_eq_true rfl) (Nat.le_of_ble_eq_true rfl) (Nat.le_of_ble_eq_true rfl) ?_
      exact Or.inl ⟨rfl, hM0, hno⟩
    · exact absurd rfl c40
  refine zi_iload_n O d_Mod_push_0 rfl ?_
  refine zi_if_le O 35 d_Mod_push_1 (by decide) (fun c1 => ?_) (fun c1 => ?_)
  · refine bad (fun e f q => ?_)
    have := el_ok hR hE q.1
    rw [q.2.2.1] at c1
    exact nI_nle (by omega) (by omega) c1
  obtain ⟨l, rfl, hl1, hl2⟩ := pos_nat c1
  refine zi_iload_n O d_Mod_push_4 rfl ?_
  refine zi_if_le O 35 d_Mod_push_5 (by decide) (fun c5 => ?_) (fun c5 => ?_)
  · refine bad (fun e f q => ?_)
    have := el_ok hR hE q.2.1
    rw [q.2.2.2.1] at c5
    exact nI_nle (by omega) (by omega) c5
  obtain ⟨m, rfl, hm1, hm2⟩ := pos_nat c5
  refine zi_iload_n O d_Mod_push_8 rfl ?_
  refine zi_iload_n O d_Mod_push_9 rfl ?_
  refine zi_icmp_eq O 35 d_Mod_push_10 (by decide) (fun c10 => ?_) (fun c10 => ?_)
  · refine bad (fun e f q => ?_)
    exact q.2.2.2.2.1 (el_uniq hR hE q.1 q.2.1 (by rw [← q.2.2.1, ← q.2.2.2.1]; exact c10))
  refine zi_aload_n O d_Mod_push_13 rfl ?_
  refine zi_iload_n O d_Mod_push_14 rfl ?_
  refine zi_iconstN O 1 d_Mod_push_15 (by decide) ?_
  refine zi_selfP O c_Mod_66 k_Mod_placeOf (m_Mod_placeOf lab hR hG' l 1 hl2) d_Mod_push_16 ⟨(Nat.le_of_ble_eq_true rfl), (Nat.le_of_ble_eq_true rfl)⟩ ⟨(Nat.le_of_ble_eq_true rfl), (Nat.le_of_ble_eq_true rfl)⟩ rfl rfl (Nat.le_of_ble_eq_true rfl) rfl rfl rfl (Nat.le_of_ble_eq_true rfl) rfl ?_
  by_cases c : ∃ e, e < 2 * n ∧ el e = l
  rotate_left
  · rw [plc_no hE' (fun e he z => c ⟨e, he, z⟩)]
    refine zi_if_lt O 35 d_Mod_push_19 (by decide) (fun c19 => ?_) (fun c19 => ?_)
    · refine bad (fun e f q => c ⟨e, q.1, ?_⟩)
      have := el_ok hR hE q.1
      exact ((nI_eq (by omega) (by omega)).mp q.2.2.1).symm
    · exact absurd (by decide) c19
  obtain ⟨e, he, rfl⟩ := c
  obtain ⟨f1, f2, f3, f4, f5, f6⟩ := hE.1 e he
  rw [plc_fr hE' he]
  refine zi_if_lt O 35 d_Mod_push_19 (by decide) (fun c19 => ?_) (fun c19 => ?_)
  · exact absurd c19 (nI_pos (by omega))
  refine zi_aload_n O d_Mod_push_22 rfl ?_
  refine zi_iload_n O d_Mod_push_23 rfl ?_
  refine zi_iconstN O 1 d_Mod_push_24 (by decide) ?_
  refine zi_selfP O c_Mod_66 k_Mod_placeOf (m_Mod_placeOf lab hR hG' m 1 hm2) d_Mod_push_25 ⟨(Nat.le_of_ble_eq_true rfl), (Nat.le_of_ble_eq_true rfl)⟩ ⟨(Nat.le_of_ble_eq_true rfl), (Nat.le_of_ble_eq_true rfl)⟩ rfl rfl (Nat.le_of_ble_eq_true rfl) rfl rfl rfl (Nat.le_of_ble_eq_true rfl) rfl ?_
  by_cases c : ∃ e, e < 2 * n ∧ el e = m
  rotate_left
  · rw [plc_no hE' (fun e he z => c ⟨e, he, z⟩)]
    refine zi_if_lt O 35 d_Mod_push_28 (by decide) (fun c28 => ?_) (fun c28 => ?_)
    · refine bad (fun e f q => c ⟨f, q.2.1, ?_⟩)
      have := el_ok hR hE q.2.1
      exact ((nI_eq (by omega) (by omega)).mp q.2.2.2.1).symm
    · exact absurd (by decide) c28
  obtain ⟨f, hf, rfl⟩ := c
  obtain ⟨g1, g2, g3, g4, g5, g6⟩ := hE.1 f hf
  rw [plc_fr hE' hf]
  refine zi_if_lt O 35 d_Mod_push_28 (by decide) (fun c28 => ?_) (fun c28 => ?_)
  · exact absurd c28 (nI_pos (by omega))
  have hef : e ≠ f := fun q => c10 (by rw [q])
  have only : ∀ e' f', PushOK n el fr to_ at_ oc (nI (el e)) (nI (el f)) false false e' f' → e' = e ∧ f' = f := fun e' f' q => ⟨(el_uniq hR hE he q.1 q.2.2.1).symm, (el_uniq hR hE hf q.2.1 q.2.2.2.1).symm⟩
  refine zi_iconstN O 1 d_Mod_push_31 (by decide) ?_
  refine zi_goto O 36 d_Mod_push_32 (by decide) ?_
  refine zi_istore (ls' := _ :: _ :: _ :: _ :: _ :: _ :: some _ :: _) O d_Mod_push_36 rfl (by decide) rfl ?_
  refine zi_iload O d_Mod_push_38 rfl ?_
  refine zi_if_eq O 80 d_Mod_push_40 (by decide) (fun c40 => ?_) (fun c40 => ?_)
  · exact absurd c40 (by decide)
  refine zi_aload_n O d_Mod_push_43 rfl ?_
  refine zi_get O f_Mod_59 d_Mod_push_44 rfl rfl ?_
  refine zi_bipushN O 18 d_Mod_push_47 (by decide) ?_
  refine zi_icmp_gtN O 80 d_Mod_push_49 (by decide) (by omega) (by omega) (fun c49 => ?_) (fun c49 => ?_)
  · refine zi_iconstN O 0 d_Mod_push_80 (by decide) ?_
    refine zi_zret O d_Mod_push_81 rfl (Nat.le_of_ble_eq_true rfl) (Nat.le_of_ble_eq_true rfl) (Nat.le_of_ble_eq_true rfl) ?_
    exact Or.inl ⟨rfl, hM0, fun e f q => by have := q.2.2.2.2.2.1; omega⟩
  refine zi_aload_n O d_Mod_push_52 rfl ?_
  refine zi_iload_n O d_Mod_push_53 rfl ?_
  refine zi_iload_n O d_Mod_push_54 rfl ?_
  refine zi_if_eq O 62 d_Mod_push_55 (by decide) (fun c55 => ?_) (fun c55 => ?_)
  rotate_left
  · exact absurd rfl c55
  refine zi_iconstN O 0 d_Mod_push_62 (by decide) ?_
  refine zi_iload_n O d_Mod_push_63 rfl ?_
  refine zi_iload O d_Mod_push_64 rfl ?_
  refine zi_if_eq O 73 d_Mod_push_66 (by decide) (fun c66 => ?_) (fun c66 => ?_)
  rotate_left
  · exact absurd rfl c66
  refine zi_iconstN O 0 d_Mod_push_73 (by decide) ?_
  refine zi_selfV O c_Mod_190 k_Mod_areOne (m_Mod_areOne hR hG' hE' hP e f 0 0 he hf (by decide) (by decide)) d_Mod_push_74 ⟨(Nat.le_of_ble_eq_true rfl), (Nat.le_of_ble_eq_true rfl)⟩ ⟨(Nat.le_of_ble_eq_true rfl), (Nat.le_of_ble_eq_true rfl)⟩ rfl rfl (Nat.le_of_ble_eq_true rfl) rfl rfl rfl (Nat.le_of_ble_eq_true rfl) rfl (fun r h' hq hl => ?_)
  obtain ⟨hq, row', fof', piece', rfl⟩ := hq
  rcases hq with ⟨rfl, hmt⟩ | ⟨rfl, hmt⟩
  rotate_left
  · refine zi_st (st' := [.int (nI 0)]) rfl ?_
    refine zi_if_ne O 82 d_Mod_push_77 (by decide) (fun c77 => ?_) (fun c77 => ?_)
    · exact absurd rfl c77
    · refine zi_iconstN O 0 d_Mod_push_80 (by decide) ?_
      refine zi_zret O d_Mod_push_81 rfl (Nat.le_of_ble_eq_true rfl) (Nat.le_of_ble_eq_true rfl) (Nat.le_of_ble_eq_true rfl) ?_
      refine Or.inl ⟨rfl, ⟨_, _, _, _, _, _, _, _, _, _, _, _, _, _, _, _, _, _, _, _, _, rfl, hR, hS, hG, hPR, hPS, hPG⟩, fun e' f' q => ?_⟩
      obtain ⟨rfl, rfl⟩ := only e' f' q
      exact hmt q.2.2.2.2.2.2
  refine zi_st (st' := [.int (nI 1)]) rfl ?_
  refine zi_if_ne O 82 d_Mod_push_77 (by decide) (fun c77 => ?_) (fun c77 => ?_)
  rotate_left
  · exact absurd c77 (by decide)
  have hok : PushOK n el fr to_ at_ oc (nI (el e)) (nI (el f)) false false e f := ⟨he, hf, rfl, rfl, hef, by omega, hmt⟩
  refine zi_aload_n O d_Mod_push_82 rfl ?_
  refine zi_selfV O c_Mod_136 k_Mod_findFree (m_Mod_findFree hR hE') d_Mod_push_83 ⟨(Nat.le_of_ble_eq_true rfl), (Nat.le_of_ble_eq_true rfl)⟩ ⟨(Nat.le_of_ble_eq_true rfl), (Nat.le_of_ble_eq_true rfl)⟩ rfl rfl (Nat.le_of_ble_eq_true rfl) rfl rfl rfl (Nat.le_of_ble_eq_true rfl) rfl (fun r h' hq hl => ?_)
  obtain ⟨rfl, row'', free', rfl, -, hfr⟩ := hq
  refine zi_st (st' := []) rfl ?_
  have e0 : free' 0 = nI u := by rw [hfr 0 (by decide), hu]; rfl
  have e1 : free' 1 = nI v := by rw [hfr 1 (by decide), hv, hu]; rfl
  have e2 : free' 2 = nI w := by rw [hfr 2 (by decide), hw, hv, hu]; rfl
  have e3 : free' 3 = nI z := by rw [hfr 3 (by decide), hzz, hw, hv, hu]; rfl
  have be := el_ok hR hE he
  have bf := el_ok hR hE hf
  refine zi_aload_n O d_Mod_push_86 rfl ?_
  refine zi_iload_n O d_Mod_push_87 rfl ?_
  refine zi_iconstN O 0 d_Mod_push_88 (by decide) ?_
  refine zi_selfP O c_Mod_66 k_Mod_placeOf (m_Mod_to hR hG' hE' he) d_Mod_push_89 ⟨(Nat.le_of_ble_eq_true rfl), (Nat.le_of_ble_eq_true rfl)⟩ ⟨(Nat.le_of_ble_eq_true rfl), (Nat.le_of_ble_eq_true rfl)⟩ rfl rfl (Nat.le_of_ble_eq_true rfl) rfl rfl rfl (Nat.le_of_ble_eq_true rfl) rfl ?_
  refine zi_istore (ls' := _ :: _ :: _ :: _ :: _ :: _ :: _ :: some _ :: _) O d_Mod_push_92 rfl (by decide) rfl ?_
  refine zi_aload_n O d_Mod_push_94 rfl ?_
  refine zi_iload_n O d_Mod_push_95 rfl ?_
  refine zi_iconstN O 0 d_Mod_push_96 (by decide) ?_
  refine zi_selfP O c_Mod_66 k_Mod_placeOf (m_Mod_to hR hG' hE' hf) d_Mod_push_97 ⟨(Nat.le_of_ble_eq_true rfl), (Nat.le_of_ble_eq_true rfl)⟩ ⟨(Nat.le_of_ble_eq_true rfl), (Nat.le_of_ble_eq_true rfl)⟩ rfl rfl (Nat.le_of_ble_eq_true rfl) rfl rfl rfl (Nat.le_of_ble_eq_true rfl) rfl ?_
  refine zi_istore (ls' := _ :: _ :: _ :: _ :: _ :: _ :: _ :: _ :: some _ :: _) O d_Mod_push_100 rfl (by decide) rfl ?_
  refine zi_aload_n O d_Mod_push_102 rfl ?_
  refine zi_get O f_Mod_23 d_Mod_push_103 rfl rfl ?_
  refine zi_iload O d_Mod_push_106 rfl ?_
  refine zi_aload_n O d_Mod_push_108 rfl ?_
  refine zi_get O f_Mod_50 d_Mod_push_109 rfl rfl ?_
  refine zi_iconstN O 1 d_Mod_push_112 (by decide) ?_
  refine zi_iald O d_Mod_push_113 rfl rfl (by omega) (Nat.le_of_ble_eq_true rfl) ?_
  rw [e1]
  refine zi_iast O d_Mod_push_114 rfl rfl (by omega) (Nat.le_of_ble_eq_true rfl) (by dsimp only [List.set]) ?_
  refine zi_aload_n O d_Mod_push_115 rfl ?_
  refine zi_get O f_Mod_23 d_Mod_push_116 rfl rfl ?_
  refine zi_iload O d_Mod_push_119 rfl ?_
  refine zi_aload_n O d_Mod_push_121 rfl ?_
  refine zi_get O f_Mod_50 d_Mod_push_122 rfl rfl ?_
  refine zi_iconstN O 3 d_Mod_push_125 (by decide) ?_
  refine zi_iald O d_Mod_push_126 rfl rfl (by omega) (Nat.le_of_ble_eq_true rfl) ?_
  rw [e3]
  refine zi_iast O d_Mod_push_127 rfl rfl (by omega) (Nat.le_of_ble_eq_true rfl) (by dsimp only [List.set]) ?_
  refine zi_aload_n O d_Mod_push_128 rfl ?_
  refine zi_get O f_Mod_53 d_Mod_push_129 rfl rfl ?_
  refine zi_iconstN O 0 d_Mod_push_132 (by decide) ?_
  refine zi_aload_n O d_Mod_push_133 rfl ?_
  refine zi_get O f_Mod_50 d_Mod_push_134 rfl rfl ?_
  refine zi_iconstN O 2 d_Mod_push_137 (by decide) ?_
  refine zi_iald O d_Mod_push_138 rfl rfl (by omega) (Nat.le_of_ble_eq_true rfl) ?_
  rw [e2]
  refine zi_iast O d_Mod_push_139 rfl rfl (by omega) (Nat.le_of_ble_eq_true rfl) (by dsimp only [List.set]) ?_
  refine zi_aload_n O d_Mod_push_140 rfl ?_
  refine zi_get O f_Mod_53 d_Mod_push_141 rfl rfl ?_
  refine zi_iconstN O 1 d_Mod_push_144 (by decide) ?_
  refine zi_aload_n O d_Mod_push_145 rfl ?_
  refine zi_get O f_Mod_50 d_Mod_push_146 rfl rfl ?_
  refine zi_iconstN O 0 d_Mod_push_149 (by decide) ?_
  refine zi_iald O d_Mod_push_150 rfl rfl (by omega) (Nat.le_of_ble_eq_true rfl) ?_
  rw [e0]
  refine zi_iast O d_Mod_push_151 rfl rfl (by omega) (Nat.le_of_ble_eq_true rfl) (by dsimp only [List.set]) ?_
  refine zi_aload_n O d_Mod_push_152 rfl ?_
  refine zi_get O f_Mod_53 d_Mod_push_153 rfl rfl ?_
  refine zi_iconstN O 2 d_Mod_push_156 (by decide) ?_
  refine zi_iload O d_Mod_push_157 rfl ?_
  refine zi_if_eq O 166 d_Mod_push_159 (by decide) (fun c159 => ?_) (fun c159 => ?_)
  rotate_left
  · exact absurd rfl c159
  refine zi_aload_n O d_Mod_push_166 rfl ?_
  refine zi_get O f_Mod_50 d_Mod_push_167 rfl rfl ?_
  refine zi_iconstN O 3 d_Mod_push_170 (by decide) ?_
  refine zi_iald O d_Mod_push_171 rfl rfl (by omega) (Nat.le_of_ble_eq_true rfl) ?_
  rw [e3]
  refine zi_iast O d_Mod_push_172 rfl rfl (by omega) (Nat.le_of_ble_eq_true rfl) (by dsimp only [List.set]) ?_
  refine zi_aload_n O d_Mod_push_173 rfl ?_
  refine zi_get O f_Mod_53 d_Mod_push_174 rfl rfl ?_
  refine zi_iconstN O 3 d_Mod_push_177 (by decide) ?_
  refine zi_iload_n O d_Mod_push_178 rfl ?_
  refine zi_if_eq O 191 d_Mod_push_179 (by decide) (fun c179 => ?_) (fun c179 => ?_)
  rotate_left
  · exact absurd rfl c179
  refine zi_iload_n O d_Mod_push_191 rfl ?_
  refine zi_iast O d_Mod_push_192 rfl rfl (by omega) (Nat.le_of_ble_eq_true rfl) (by dsimp only [List.set]) ?_
  refine zi_iload_n O d_Mod_push_193 rfl ?_
  refine zi_if_eq O 201 d_Mod_push_194 (by decide) (fun c194 => ?_) (fun c194 => ?_)
  rotate_left
  · exact absurd rfl c194
  refine zi_iconstN O 3 d_Mod_push_201 (by decide) ?_
  refine zi_istore (ls' := _ :: _ :: _ :: _ :: _ :: _ :: _ :: _ :: _ :: some _ :: _) O d_Mod_push_202 rfl (by decide) rfl ?_
  refine zi_iload O d_Mod_push_204 rfl ?_
  refine zi_if_eq O 213 d_Mod_push_206 (by decide) (fun c206 => ?_) (fun c206 => ?_)
  rotate_left
  · exact absurd rfl c206
  refine zi_iconstN O 0 d_Mod_push_213 (by decide) ?_
  refine zi_istore (ls' := _ :: _ :: _ :: _ :: _ :: _ :: _ :: _ :: _ :: _ :: some _ :: _) O d_Mod_push_214 rfl (by decide) rfl ?_
  refine zi_aload_n O d_Mod_push_216 rfl ?_
  refine zi_iload O d_Mod_push_217 rfl ?_
  refine zi_if_eq O 227 d_Mod_push_219 (by decide) (fun c219 => ?_) (fun c219 => ?_)
  · exact absurd c219 (by decide)
  refine zi_iload O d_Mod_push_222 rfl ?_
  refine zi_goto O 229 d_Mod_push_224 (by decide) ?_
  refine zi_iload O d_Mod_push_229 rfl ?_
  refine zi_if_eq O 239 d_Mod_push_231 (by decide) (fun c231 => ?_) (fun c231 => ?_)
  · exact absurd c231 (by decide)
  refine zi_iload O d_Mod_push_234 rfl ?_
  refine zi_goto O 241 d_Mod_push_236 (by decide) ?_
  refine zi_selfV O c_Mod_194 k_Mod_cross (m_Mod_cross (by omega) 0 3 (by decide) (by decide)) d_Mod_push_241 ⟨(Nat.le_of_ble_eq_true rfl), (Nat.le_of_ble_eq_true rfl)⟩ ⟨(Nat.le_of_ble_eq_true rfl), (Nat.le_of_ble_eq_true rfl)⟩ rfl rfl (Nat.le_of_ble_eq_true rfl) rfl rfl rfl (Nat.le_of_ble_eq_true rfl) rfl (fun r h' hq hl => ?_)
  obtain ⟨rfl, rfl⟩ := hq
  refine zi_st (st' := []) rfl ?_
  refine zi_aload_n O d_Mod_push_244 rfl ?_
  refine zi_get O f_Mod_53 d_Mod_push_245 rfl rfl ?_
  refine zi_iconstN O 0 d_Mod_push_248 (by decide) ?_
  refine zi_aload_n O d_Mod_push_249 rfl ?_
  refine zi_get O f_Mod_50 d_Mod_push_250 rfl rfl ?_
  refine zi_iconstN O 2 d_Mod_push_253 (by decide) ?_
  refine zi_iald O d_Mod_push_254 rfl rfl (by omega) (Nat.le_of_ble_eq_true rfl) ?_
  rw [e2]
  refine zi_iast O d_Mod_push_255 rfl rfl (by omega) (Nat.le_of_ble_eq_true rfl) (by dsimp only [List.set]) ?_
  refine zi_aload_n O d_Mod_push_256 rfl ?_
  refine zi_get O f_Mod_53 d_Mod_push_257 rfl rfl ?_
  refine zi_iconstN O 1 d_Mod_push_260 (by decide) ?_
  refine zi_iload_n O d_Mod_push_261 rfl ?_
  refine zi_if_eq O 269 d_Mod_push_262 (by decide) (fun c262 => ?_) (fun c262 => ?_)
  rotate_left
  · exact absurd rfl c262
  refine zi_aload_n O d_Mod_push_269 rfl ?_
  refine zi_get O f_Mod_50 d_Mod_push_270 rfl rfl ?_
  refine zi_iconstN O 1 d_Mod_push_273 (by decide) ?_
  refine zi_iald O d_Mod_push_274 rfl rfl (by omega) (Nat.le_of_ble_eq_true rfl) ?_
  rw [e1]
  refine zi_iast O d_Mod_push_275 rfl rfl (by omega) (Nat.le_of_ble_eq_true rfl) (by dsimp only [List.set]) ?_
  refine zi_aload_n O d_Mod_push_276 rfl ?_
  refine zi_get O f_Mod_53 d_Mod_push_277 rfl rfl ?_
  refine zi_iconstN O 2 d_Mod_push_280 (by decide) ?_
  refine zi_iload O d_Mod_push_281 rfl ?_
  refine zi_if_eq O 295 d_Mod_push_283 (by decide) (fun c283 => ?_) (fun c283 => ?_)
  rotate_left
  · exact absurd rfl c283
  refine zi_iload_n O d_Mod_push_295 rfl ?_
  refine zi_iast O d_Mod_push_296 rfl rfl (by omega) (Nat.le_of_ble_eq_true rfl) (by dsimp only [List.set]) ?_
  refine zi_aload_n O d_Mod_push_297 rfl ?_
  refine zi_get O f_Mod_53 d_Mod_push_298 rfl rfl ?_
  refine zi_iconstN O 3 d_Mod_push_301 (by decide) ?_
  refine zi_aload_n O d_Mod_push_302 rfl ?_
  refine zi_get O f_Mod_50 d_Mod_push_303 rfl rfl ?_
  refine zi_iconstN O 0 d_Mod_push_306 (by decide) ?_
  refine zi_iald O d_Mod_push_307 rfl rfl (by omega) (Nat.le_of_ble_eq_true rfl) ?_
  rw [e0]
  refine zi_iast O d_Mod_push_308 rfl rfl (by omega) (Nat.le_of_ble_eq_true rfl) (by dsimp only [List.set]) ?_
  refine zi_iload O d_Mod_push_309 rfl ?_
  refine zi_if_eq O 318 d_Mod_push_311 (by decide) (fun c311 => ?_) (fun c311 => ?_)
  rotate_left
  · exact absurd rfl c311
  refine zi_iconstN O 2 d_Mod_push_318 (by decide) ?_
  refine zi_istore (ls' := _ :: _ :: _ :: _ :: _ :: _ :: _ :: _ :: _ :: _ :: some _ :: _) O d_Mod_push_319 rfl (by decide) rfl ?_
  refine zi_aload_n O d_Mod_push_321 rfl ?_
  refine zi_iload O d_Mod_push_322 rfl ?_
  refine zi_if_eq O 332 d_Mod_push_324 (by decide) (fun c324 => ?_) (fun c324 => ?_)
  · exact absurd c324 (by decide)
  refine zi_iload O d_Mod_push_327 rfl ?_
  refine zi_goto O 334 d_Mod_push_329 (by decide) ?_
  refine zi_iload O d_Mod_push_334 rfl ?_
  refine zi_if_eq O 344 d_Mod_push_336 (by decide) (fun c336 => ?_) (fun c336 => ?_)
  · exact absurd c336 (by decide)
  refine zi_iload O d_Mod_push_339 rfl ?_
  refine zi_goto O 346 d_Mod_push_341 (by decide) ?_
  refine zi_selfV O c_Mod_194 k_Mod_cross (m_Mod_cross (by omega) 2 3 (by decide) (by decide)) d_Mod_push_346 ⟨(Nat.le_of_ble_eq_true rfl), (Nat.le_of_ble_eq_true rfl)⟩ ⟨(Nat.le_of_ble_eq_true rfl), (Nat.le_of_ble_eq_true rfl)⟩ rfl rfl (Nat.le_of_ble_eq_true rfl) rfl rfl rfl (Nat.le_of_ble_eq_true rfl) rfl (fun r h' hq hl => ?_)
  obtain ⟨rfl, rfl⟩ := hq
  refine zi_st (st' := []) rfl ?_
  refine zi_iconstN O 1 d_Mod_push_349 (by decide) ?_
  refine zi_zret O d_Mod_push_350 rfl (Nat.le_of_ble_eq_true rfl) (Nat.le_of_ble_eq_true rfl) (Nat.le_of_ble_eq_true rfl) ?_
  have hR2 := rowOK_up (rowOK_up hR (to_ e) v (by omega)) (to_ f) z (by omega)
  refine Or.inr ⟨e, f, hok, rfl, _, _, _, _, _, _, _, _, _, _, _, _, _, _, _, _, _, _, _, _, _, rfl, ?_, sg_upd (sg_upd hS _) _, sg_add (sg_add hG (by decide)) (by decide), hPR, hPS, hPG⟩
  exact rowOK_ad (l0 := el f) (l1 := u) (l2 := w) (l3 := v) (rowOK_ad (l0 := w) (l1 := u) (l2 := z) (l3 := el e) hR2 (by omega) (by omega) (by omega) (by omega) (by omega)) (by omega) (by omega) (by omega) (by omega) (by omega)
set_option maxHeartbeats 4000000 in
theorem m_Mod_push_010 (hM : Mdl k plab T n lab S0 ci h) (hE : Ed n lab S0 el fr to_ at_) (hP : PcE (2 * n) n fr to_ oc) (x y : Int32) (u v w z : Nat) (hu : u = fN el 0 (2 * n)) (hv : v = fN el u (2 * n)) (hw : w = fN el v (2 * n)) (hzz : z = fN el w (2 * n)) : zMet y_Mod_push b_Mod_push 11 (some .boolean) ⟨7, 0, 0, 200⟩ [.ref 0, .int x, .int (bI false), .int y, .int (bI true), .int (bI false)] h
    (fun r h' => (r = some (.int (nI 0)) ∧ Mdl k plab T n lab S0 ci h' ∧ ∀ e f, ¬ PushOK n el fr to_ at_ oc x y false true e f) ∨ (∃ e f, PushOK n el fr to_ at_ oc x y false true e f ∧ r = some (.int (nI 1)) ∧ Mdl k plab T (n + 1 + 1) (phL false true false (va_up (va_up lab (to_ e) v) (to_ f) z) n (el e) u v (el f) w z) (upd (upd S0 n (phS false true false)) (n + 1) (-(phS false true false))) ci h')) := by
  have hM0 := hM
  obtain ⟨wrong, pS, pL, oN, oC, S, L, oS, oL, labs, row, fresh, piece, closed, faces, comp, fof, sides, side, free, arnd, rfl, hR, hS, hG, hPR, hPS, hPG⟩ := hM
  have hn := hR.1
  have hE' := ed_same hE (fun _ _ => rfl) hS
  have hG' := sg_same hG hS
  have bu := fN_le el 0 (2 * n)
  have bv := fN_le el u (2 * n)
  have bw := fN_le el v (2 * n)
  have bz := fN_le el w (2 * n)
  rw [← hu] at bu
  rw [← hv] at bv
  rw [← hw] at bw
  rw [← hzz] at bz
  refine zMet_of (plainFor_of_name (by decide +kernel)) rfl (Nat.le_of_ble_eq_true rfl) (fun z1 z2 z3 z4 z5 z6 z7 z8 z9 z10 z11 z12 z13 z14 O hin => ?_)
  refine zi_ls (ls' := [some (.ref 0), some (.int x), some (.int (bI false)), some (.int y), some (.int (bI true)), some (.int (bI false)), none, none, none, none, none]) rfl ?_
  have bad : (∀ e f, ¬ PushOK n el fr to_ at_ oc x y false true e f) → zG z1 z2 z3 z4 z5 z6 z7 z8 z9 z10 z11 z12 z13 z14 15 11 (fun r h' => (r = some (.int (nI 0)) ∧ Mdl k plab T n lab S0 ci h' ∧ ∀ e f, ¬ PushOK n el fr to_ at_ oc x y false true e f) ∨ (∃ e f, PushOK n el fr to_ at_ oc x y false true e f ∧ r = some (.int (nI 1)) ∧ Mdl k plab T (n + 1 + 1) (phL false true false (va_up (va_up lab (to_ e) v) (to_ f) z) n (el e) u v (el f) w z) (upd (upd S0 n (phS false true false)) (n + 1) (-(phS false true false))) ci h')) 0 0 0 0 35 [some (.ref 0), some (.int x), some (.int (bI false)), some (.int y), some (.int (bI true)), some (.int (bI false)), none, none, none, none, none] [] (mh k wrong pS pL n ci oN oC S L oS oL labs row fresh piece closed faces comp fof sides side free arnd) := by
    intro hno
    refine zi_iconstN O 0 d_Mod_push_35 (by decide) ?_
    refine zi_istore (ls' := _ :: _ :: _ :: _ :: _ :: _ :: some _ :: _) O d_Mod_push_36 rfl (by decide) rfl ?_
    refine zi_iload O d_Mod_push_38 rfl ?_
    refine zi_if_eq O 80 d_Mod_push_40 (by decide) (fun c40 => ?_) (fun c40 => ?_)
    · refine zi_iconstN O 0 d_Mod_push_80 (by decide) ?_
      refine zi_zret O d_Mod_push_81 rfl (Nat.le_of_ble_eq_true rfl) (Nat.le_of_ble_eq_true rfl) (Nat.le_of_ble_eq_true rfl) ?_
      exact Or.inl ⟨rfl, hM0, hno⟩
    · exact absurd rfl c40
  refine zi_iload_n O d_Mod_push_0 rfl ?_
  refine zi_if_le O 35 d_Mod_push_1 (by decide) (fun c1 => ?_) (fun c1 => ?_)
  · refine bad (fun e f q => ?_)
    have := el_ok hR hE q.1
    rw [q.2.2.1] at c1
    exact nI_nle (by omega) (by omega) c1
  obtain ⟨l, rfl, hl1, hl2⟩ := pos_nat c1
  refine zi_iload_n O d_Mod_push_4 rfl ?_
  refine zi_if_le O 35 d_Mod_push_5 (by decide) (fun c5 => ?_) (fun c5 => ?_)
  · refine bad (fun e f q => ?_)
    have := el_ok hR hE q.2.1
    rw [q.2.2.2.1] at c5
    exact nI_nle (by omega) (by omega) c5
  obtain ⟨m, rfl, hm1, hm2⟩ := pos_nat c5
  refine zi_iload_n O d_Mod_push_8 rfl ?_
  refine zi_iload_n O d_Mod_push_9 rfl ?_
  refine zi_icmp_eq O 35 d_Mod_push_10 (by decide) (fun c10 => ?_) (fun c10 => ?_)
  · refine bad (fun e f q => ?_)
    exact q.2.2.2.2.1 (el_uniq hR hE q.1 q.2.1 (by rw [← q.2.2.1, ← q.2.2.2.1]; exact c10))
  refine zi_aload_n O d_Mod_push_13 rfl ?_
  refine zi_iload_n O d_Mod_push_14 rfl ?_
  refine zi_iconstN O 1 d_Mod_push_15 (by decide) ?_
  refine zi_selfP O c_Mod_66 k_Mod_placeOf (m_Mod_placeOf lab hR hG' l 1 hl2) d_Mod_push_16 ⟨(Nat.le_of_ble_eq_true rfl), (Nat.le_of_ble_eq_true rfl)⟩ ⟨(Nat.le_of_ble_eq_true rfl), (Nat.le_of_ble_eq_true rfl)⟩ rfl rfl (Nat.le_of_ble_eq_true rfl) rfl rfl rfl (Nat.le_of_ble_eq_true rfl) rfl ?_
  by_cases c : ∃ e, e < 2 * n ∧ el e = l
  rotate_left
  · rw [plc_no hE' (fun e he z => c ⟨e, he, z⟩)]
    refine zi_if_lt O 35 d_Mod_push_19 (by decide) (fun c19 => ?_) (fun c19 => ?_)
    · refine bad (fun e f q => c ⟨e, q.1, ?_⟩)
      have := el_ok hR hE q.1
      exact ((nI_eq (by omega) (by omega)).mp q.2.2.1).symm
    · exact absurd (by decide) c19
  obtain ⟨e, he, rfl⟩ := c
  obtain ⟨f1, f2, f3, f4, f5, f6⟩ := hE.1 e he
  rw [plc_fr hE' he]
  refine zi_if_lt O 35 d_Mod_push_19 (by decide) (fun c19 => ?_) (fun c19 => ?_)
  · exact absurd c19 (nI_pos (by omega))
  refine zi_aload_n O d_Mod_push_22 rfl ?_
  refine zi_iload_n O d_Mod_push_23 rfl ?_
  refine zi_iconstN O 1 d_Mod_push_24 (by decide) ?_
  refine zi_selfP O c_Mod_66 k_Mod_placeOf (m_Mod_placeOf lab hR hG' m 1 hm2) d_Mod_push_25 ⟨(Nat.le_of_ble_eq_true rfl), (Nat.le_of_ble_eq_true rfl)⟩ ⟨(Nat.le_of_ble_eq_true rfl), (Nat.le_of_ble_eq_true rfl)⟩ rfl rfl (Nat.le_of_ble_eq_true rfl) rfl rfl rfl (Nat.le_of_ble_eq_true rfl) rfl ?_
  by_cases c : ∃ e, e < 2 * n ∧ el e = m
  rotate_left
  · rw [plc_no hE' (fun e he z => c ⟨e, he, z⟩)]
    refine zi_if_lt O 35 d_Mod_push_28 (by decide) (fun c28 => ?_) (fun c28 => ?_)
    · refine bad (fun e f q => c ⟨f, q.2.1, ?_⟩)
      have := el_ok hR hE q.2.1
      exact ((nI_eq (by omega) (by omega)).mp q.2.2.2.1).symm
    · exact absurd (by decide) c28
  obtain ⟨f, hf, rfl⟩ := c
  obtain ⟨g1, g2, g3, g4, g5, g6⟩ := hE.1 f hf
  rw [plc_fr hE' hf]
  refine zi_if_lt O 35 d_Mod_push_28 (by decide) (fun c28 => ?_) (fun c28 => ?_)
  · exact absurd c28 (nI_pos (by omega))
  have hef : e ≠ f := fun q => c10 (by rw [q])
  have only : ∀ e' f', PushOK n el fr to_ at_ oc (nI (el e)) (nI (el f)) false true e' f' → e' = e ∧ f' = f := fun e' f' q => ⟨(el_uniq hR hE he q.1 q.2.2.1).symm, (el_uniq hR hE hf q.2.1 q.2.2.2.1).symm⟩
  refine zi_iconstN O 1 d_Mod_push_31 (by decide) ?_
  refine zi_goto O 36 d_Mod_push_32 (by decide) ?_
  refine zi_istore (ls' := _ :: _ :: _ :: _ :: _ :: _ :: some _ :: _) O d_Mod_push_36 rfl (by decide) rfl ?_
  refine zi_iload O d_Mod_push_38 rfl ?_
  refine zi_if_eq O 80 d_Mod_push_40 (by decide) (fun c40 => ?_) (fun c40 => ?_)
  · exact absurd c40 (by decide)
  refine zi_aload_n O d_Mod_push_43 rfl ?_
  refine zi_get O f_Mod_59 d_Mod_push_44 rfl rfl ?_
  refine zi_bipushN O 18 d_Mod_push_47 (by decide) ?_
  refine zi_icmp_gtN O 80 d_Mod_push_49 (by decide) (by omega) (by omega) (fun c49 => ?_) (fun c49 => ?_)
  · refine zi_iconstN O 0 d_Mod_push_80 (by decide) ?_
    refine zi_zret O d_Mod_push_81 rfl (Nat.le_of_ble_eq_true rfl) (Nat.le_of_ble_eq_true rfl) (Nat.le_of_ble_eq_true rfl) ?_
    exact Or.inl ⟨rfl, hM0, fun e f q => by have := q.2.2.2.2.2.1; omega⟩
  refine zi_aload_n O d_Mod_push_52 rfl ?_
  refine zi_iload_n O d_Mod_push_53 rfl ?_
  refine zi_iload_n O d_Mod_push_54 rfl ?_
  refine zi_if_eq O 62 d_Mod_push_55 (by decide) (fun c55 => ?_) (fun c55 => ?_)
  rotate_left
  · exact absurd rfl c55
  refine zi_iconstN O 0 d_Mod_push_62 (by decide) ?_
  refine zi_iload_n O d_Mod_push_63 rfl ?_
  refine zi_iload O d_Mod_push_64 rfl ?_
  refine zi_if_eq O 73 d_Mod_push_66 (by decide) (fun c66 => ?_) (fun c66 => ?_)
  · exact absurd c66 (by decide)
  refine zi_iconstN O 1 d_Mod_push_69 (by decide) ?_
  refine zi_goto O 74 d_Mod_push_70 (by decide) ?_
  refine zi_selfV O c_Mod_190 k_Mod_areOne (m_Mod_areOne hR hG' hE' hP e f 0 1 he hf (by decide) (by decide)) d_Mod_push_74 ⟨(Nat.le_of_ble_eq_true rfl), (Nat.le_of_ble_eq_true rfl)⟩ ⟨(Nat.le_of_ble_eq_true rfl), (Nat.le_of_ble_eq_true rfl)⟩ rfl rfl (Nat.le_of_ble_eq_true rfl) rfl rfl rfl (Nat.le_of_ble_eq_true rfl) rfl (fun r h' hq hl => ?_)
  obtain ⟨hq, row', fof', piece', rfl⟩ := hq
  rcases hq with ⟨rfl, hmt⟩ | ⟨rfl, hmt⟩
  rotate_left
  · refine zi_st (st' := [.int (nI 0)]) rfl ?_
    refine zi_if_ne O 82 d_Mod_push_77 (by decide) (fun c77 => ?_) (fun c77 => ?_)
    · exact absurd rfl c77
    · refine zi_iconstN O 0 d_Mod_push_80 (by decide) ?_
      refine zi_zret O d_Mod_push_81 rfl (Nat.le_of_ble_eq_true rfl) (Nat.le_of_ble_eq_true rfl) (Nat.le_of_ble_eq_true rfl) ?_
      refine Or.inl ⟨rfl, ⟨_, _, _, _, _, _, _, _, _, _, _, _, _, _, _, _, _, _, _, _, _, rfl, hR, hS, hG, hPR, hPS, hPG⟩, fun e' f' q => ?_⟩
      obtain ⟨rfl, rfl⟩ := only e' f' q
      exact hmt q.2.2.2.2.2.2
  refine zi_st (st' := [.int (nI 1)]) rfl ?_
  refine zi_if_ne O 82 d_Mod_push_77 (by decide) (fun c77 => ?_) (fun c77 => ?_)
  rotate_left
  · exact absurd c77 (by decide)
  have hok : PushOK n el fr to_ at_ oc (nI (el e)) (nI (el f)) false true e f := ⟨he, hf, rfl, rfl, hef, by omega, hmt⟩
  refine zi_aload_n O d_Mod_push_82 rfl ?_
  refine zi_selfV O c_Mod_136 k_Mod_findFree (m_Mod_findFree hR hE') d_Mod_push_83 ⟨(Nat.le_of_ble_eq_true rfl), (Nat.le_of_ble_eq_true rfl)⟩ ⟨(Nat.le_of_ble_eq_true rfl), (Nat.le_of_ble_eq_true rfl)⟩ rfl rfl (Nat.le_of_ble_eq_true rfl) rfl rfl rfl (Nat.le_of_ble_eq_true rfl) rfl (fun r h' hq hl => ?_)
  obtain ⟨rfl, row'', free', rfl, -, hfr⟩ := hq
  refine zi_st (st' := []) rfl ?_
  have e0 : free' 0 = nI u := by rw [hfr 0 (by decide), hu]; rfl
  have e1 : free' 1 = nI v := by rw [hfr 1 (by decide), hv, hu]; rfl
  have e2 : free' 2 = nI w := by rw [hfr 2 (by decide), hw, hv, hu]; rfl
  have e3 : free' 3 = nI z := by rw [hfr 3 (by decide), hzz, hw, hv, hu]; rfl
  have be := el_ok hR hE he
  have bf := el_ok hR hE hf
  refine zi_aload_n O d_Mod_push_86 rfl ?_
  refine zi_iload_n O d_Mod_push_87 rfl ?_
  refine zi_iconstN O 0 d_Mod_push_88 (by decide) ?_
  refine zi_selfP O c_Mod_66 k_Mod_placeOf (m_Mod_to hR hG' hE' he) d_Mod_push_89 ⟨(Nat.le_of_ble_eq_true rfl), (Nat.le_of_ble_eq_true rfl)⟩ ⟨(Nat.le_of_ble_eq_true rfl), (Nat.le_of_ble_eq_true rfl)⟩ rfl rfl (Nat.le_of_ble_eq_true rfl) rfl rfl rfl (Nat.le_of_ble_eq_true rfl) rfl ?_
  refine zi_istore (ls' := _ :: _ :: _ :: _ :: _ :: _ :: _ :: some _ :: _) O d_Mod_push_92 rfl (by decide) rfl ?_
  refine zi_aload_n O d_Mod_push_94 rfl ?_
  refine zi_iload_n O d_Mod_push_95 rfl ?_
  refine zi_iconstN O 0 d_Mod_push_96 (by decide) ?_
  refine zi_selfP O c_Mod_66 k_Mod_placeOf (m_Mod_to hR hG' hE' hf) d_Mod_push_97 ⟨(Nat.le_of_ble_eq_true rfl), (Nat.le_of_ble_eq_true rfl)⟩ ⟨(Nat.le_of_ble_eq_true rfl), (Nat.le_of_ble_eq_true rfl)⟩ rfl rfl (Nat.le_of_ble_eq_true rfl) rfl rfl rfl (Nat.le_of_ble_eq_true rfl) rfl ?_
  refine zi_istore (ls' := _ :: _ :: _ :: _ :: _ :: _ :: _ :: _ :: some _ :: _) O d_Mod_push_100 rfl (by decide) rfl ?_
  refine zi_aload_n O d_Mod_push_102 rfl ?_
  refine zi_get O f_Mod_23 d_Mod_push_103 rfl rfl ?_
  refine zi_iload O d_Mod_push_106 rfl ?_
  refine zi_aload_n O d_Mod_push_108 rfl ?_
  refine zi_get O f_Mod_50 d_Mod_push_109 rfl rfl ?_
  refine zi_iconstN O 1 d_Mod_push_112 (by decide) ?_
  refine zi_iald O d_Mod_push_113 rfl rfl (by omega) (Nat.le_of_ble_eq_true rfl) ?_
  rw [e1]
  refine zi_iast O d_Mod_push_114 rfl rfl (by omega) (Nat.le_of_ble_eq_true rfl) (by dsimp only [List.set]) ?_
  refine zi_aload_n O d_Mod_push_115 rfl ?_
  refine zi_get O f_Mod_23 d_Mod_push_116 rfl rfl ?_
  refine zi_iload O d_Mod_push_119 rfl ?_
  refine zi_aload_n O d_Mod_push_121 rfl ?_
  refine zi_get O f_Mod_50 d_Mod_push_122 rfl rfl ?_
  refine zi_iconstN O 3 d_Mod_push_125 (by decide) ?_
  refine zi_iald O d_Mod_push_126 rfl rfl (by omega) (Nat.le_of_ble_eq_true rfl) ?_
  rw [e3]
  refine zi_iast O d_Mod_push_127 rfl rfl (by omega) (Nat.le_of_ble_eq_true rfl) (by dsimp only [List.set]) ?_
  refine zi_aload_n O d_Mod_push_128 rfl ?_
  refine zi_get O f_Mod_53 d_Mod_push_129 rfl rfl ?_
  refine zi_iconstN O 0 d_Mod_push_132 (by decide) ?_
  refine zi_aload_n O d_Mod_push_133 rfl ?_
  refine zi_get O f_Mod_50 d_Mod_push_134 rfl rfl ?_
  refine zi_iconstN O 2 d_Mod_push_137 (by decide) ?_
  refine zi_iald O d_Mod_push_138 rfl rfl (by omega) (Nat.le_of_ble_eq_true rfl) ?_
  rw [e2]
  refine zi_iast O d_Mod_push_139 rfl rfl (by omega) (Nat.le_of_ble_eq_true rfl) (by dsimp only [List.set]) ?_
  refine zi_aload_n O d_Mod_push_140 rfl ?_
  refine zi_get O f_Mod_53 d_Mod_push_141 rfl rfl ?_
  refine zi_iconstN O 1 d_Mod_push_144 (by decide) ?_
  refine zi_aload_n O d_Mod_push_145 rfl ?_
  refine zi_get O f_Mod_50 d_Mod_push_146 rfl rfl ?_
  refine zi_iconstN O 0 d_Mod_push_149 (by decide) ?_
  refine zi_iald O d_Mod_push_150 rfl rfl (by omega) (Nat.le_of_ble_eq_true rfl) ?_
  rw [e0]
  refine zi_iast O d_Mod_push_151 rfl rfl (by omega) (Nat.le_of_ble_eq_true rfl) (by dsimp only [List.set]) ?_
  refine zi_aload_n O d_Mod_push_152 rfl ?_
  refine zi_get O f_Mod_53 d_Mod_push_153 rfl rfl ?_
  refine zi_iconstN O 2 d_Mod_push_156 (by decide) ?_
  refine zi_iload O d_Mod_push_157 rfl ?_
  refine zi_if_eq O 166 d_Mod_push_159 (by decide) (fun c159 => ?_) (fun c159 => ?_)
  · exact absurd c159 (by decide)
  refine zi_iload_n O d_Mod_push_162 rfl ?_
  refine zi_goto O 172 d_Mod_push_163 (by decide) ?_
  refine zi_iast O d_Mod_push_172 rfl rfl (by omega) (Nat.le_of_ble_eq_true rfl) (by dsimp only [List.set]) ?_
  refine zi_aload_n O d_Mod_push_173 rfl ?_
  refine zi_get O f_Mod_53 d_Mod_push_174 rfl rfl ?_
  refine zi_iconstN O 3 d_Mod_push_177 (by decide) ?_
  refine zi_iload_n O d_Mod_push_178 rfl ?_
  refine zi_if_eq O 191 d_Mod_push_179 (by decide) (fun c179 => ?_) (fun c179 => ?_)
  rotate_left
  · exact absurd rfl c179
  refine zi_iload_n O d_Mod_push_191 rfl ?_
  refine zi_iast O d_Mod_push_192 rfl rfl (by omega) (Nat.le_of_ble_eq_true rfl) (by dsimp only [List.set]) ?_
  refine zi_iload_n O d_Mod_push_193 rfl ?_
  refine zi_if_eq O 201 d_Mod_push_194 (by decide) (fun c194 => ?_) (fun c194 => ?_)
  rotate_left
  · exact absurd rfl c194
  refine zi_iconstN O 3 d_Mod_push_201 (by decide) ?_
  refine zi_istore (ls' := _ :: _ :: _ :: _ :: _ :: _ :: _ :: _ :: _ :: some _ :: _) O d_Mod_push_202 rfl (by decide) rfl ?_
  refine zi_iload O d_Mod_push_204 rfl ?_
  refine zi_if_eq O 213 d_Mod_push_206 (by decide) (fun c206 => ?_) (fun c206 => ?_)
  · exact absurd c206 (by decide)
  refine zi_iconstN O 2 d_Mod_push_209 (by decide) ?_
  refine zi_goto O 214 d_Mod_push_210 (by decide) ?_
  refine zi_istore (ls' := _ :: _ :: _ :: _ :: _ :: _ :: _ :: _ :: _ :: _ :: some _ :: _) O d_Mod_push_214 rfl (by decide) rfl ?_
  refine zi_aload_n O d_Mod_push_216 rfl ?_
  refine zi_iload O d_Mod_push_217 rfl ?_
  refine zi_if_eq O 227 d_Mod_push_219 (by decide) (fun c219 => ?_) (fun c219 => ?_)
  rotate_left
  · exact absurd rfl c219
  refine zi_iload O d_Mod_push_227 rfl ?_
  refine zi_iload O d_Mod_push_229 rfl ?_
  refine zi_if_eq O 239 d_Mod_push_231 (by decide) (fun c231 => ?_) (fun c231 => ?_)
  rotate_left
  · exact absurd rfl c231
  refine zi_iload O d_Mod_push_239 rfl ?_
  refine zi_selfV O c_Mod_194 k_Mod_cross (m_Mod_cross (by omega) 3 2 (by decide) (by decide)) d_Mod_push_241 ⟨(Nat.le_of_ble_eq_true rfl), (Nat.le_of_ble_eq_true rfl)⟩ ⟨(Nat.le_of_ble_eq_true rfl), (Nat.le_of_ble_eq_true rfl)⟩ rfl rfl (Nat.le_of_ble_eq_true rfl) rfl rfl rfl (Nat.le_of_ble_eq_true rfl) rfl (fun r h' hq hl => ?_)
  obtain ⟨rfl, rfl⟩ := hq
  refine zi_st (st' := []) rfl ?_
  refine zi_aload_n O d_Mod_push_244 rfl ?_
  refine zi_get O f_Mod_53 d_Mod_push_245 rfl rfl ?_
  refine zi_iconstN O 0 d_Mod_push_248 (by decide) ?_
  refine zi_aload_n O d_Mod_push_249 rfl ?_
  refine zi_get O f_Mod_50 d_Mod_push_250 rfl rfl ?_
  refine zi_iconstN O 2 d_Mod_push_253 (by decide) ?_
  refine zi_iald O d_Mod_push_254 rfl rfl (by omega) (Nat.le_of_ble_eq_true rfl) ?_
  rw [e2]
  refine zi_iast O d_Mod_push_255 rfl rfl (by omega) (Nat.le_of_ble_eq_true rfl) (by dsimp only [List.set]) ?_
  refine zi_aload_n O d_Mod_push_256 rfl ?_
  refine zi_get O f_Mod_53 d_Mod_push_257 rfl rfl ?_
  refine zi_iconstN O 1 d_Mod_push_260 (by decide) ?_
  refine zi_iload_n O d_Mod_push_261 rfl ?_
  refine zi_if_eq O 269 d_Mod_push_262 (by decide) (fun c262 => ?_) (fun c262 => ?_)
  rotate_left
  · exact absurd rfl c262
  refine zi_aload_n O d_Mod_push_269 rfl ?_
  refine zi_get O f_Mod_50 d_Mod_push_270 rfl rfl ?_
  refine zi_iconstN O 1 d_Mod_push_273 (by decide) ?_
  refine zi_iald O d_Mod_push_274 rfl rfl (by omega) (Nat.le_of_ble_eq_true rfl) ?_
  rw [e1]
  refine zi_iast O d_Mod_push_275 rfl rfl (by omega) (Nat.le_of_ble_eq_true rfl) (by dsimp only [List.set]) ?_
  refine zi_aload_n O d_Mod_push_276 rfl ?_
  refine zi_get O f_Mod_53 d_Mod_push_277 rfl rfl ?_
  refine zi_iconstN O 2 d_Mod_push_280 (by decide) ?_
  refine zi_iload O d_Mod_push_281 rfl ?_
  refine zi_if_eq O 295 d_Mod_push_283 (by decide) (fun c283 => ?_) (fun c283 => ?_)
  · exact absurd c283 (by decide)
  refine zi_aload_n O d_Mod_push_286 rfl ?_
  refine zi_get O f_Mod_50 d_Mod_push_287 rfl rfl ?_
  refine zi_iconstN O 3 d_Mod_push_290 (by decide) ?_
  refine zi_iald O d_Mod_push_291 rfl rfl (by omega) (Nat.le_of_ble_eq_true rfl) ?_
  rw [e3]
  refine zi_goto O 296 d_Mod_push_292 (by decide) ?_
  refine zi_iast O d_Mod_push_296 rfl rfl (by omega) (Nat.le_of_ble_eq_true rfl) (by dsimp only [List.set]) ?_
  refine zi_aload_n O d_Mod_push_297 rfl ?_
  refine zi_get O f_Mod_53 d_Mod_push_298 rfl rfl ?_
  refine zi_iconstN O 3 d_Mod_push_301 (by decide) ?_
  refine zi_aload_n O d_Mod_push_302 rfl ?_
  refine zi_get O f_Mod_50 d_Mod_push_303 rfl rfl ?_
  refine zi_iconstN O 0 d_Mod_push_306 (by decide) ?_
  refine zi_iald O d_Mod_push_307 rfl rfl (by omega) (Nat.le_of_ble_eq_true rfl) ?_
  rw [e0]
  refine zi_iast O d_Mod_push_308 rfl rfl (by omega) (Nat.le_of_ble_eq_true rfl) (by dsimp only [List.set]) ?_
  refine zi_iload O d_Mod_push_309 rfl ?_
  refine zi_if_eq O 318 d_Mod_push_311 (by decide) (fun c311 => ?_) (fun c311 => ?_)
  · exact absurd c311 (by decide)
  refine zi_iconstN O 0 d_Mod_push_314 (by decide) ?_
  refine zi_goto O 319 d_Mod_push_315 (by decide) ?_
  refine zi_istore (ls' := _ :: _ :: _ :: _ :: _ :: _ :: _ :: _ :: _ :: _ :: some _ :: _) O d_Mod_push_319 rfl (by decide) rfl ?_
  refine zi_aload_n O d_Mod_push_321 rfl ?_
  refine zi_iload O d_Mod_push_322 rfl ?_
  refine zi_if_eq O 332 d_Mod_push_324 (by decide) (fun c324 => ?_) (fun c324 => ?_)
  rotate_left
  · exact absurd rfl c324
  refine zi_iload O d_Mod_push_332 rfl ?_
  refine zi_iload O d_Mod_push_334 rfl ?_
  refine zi_if_eq O 344 d_Mod_push_336 (by decide) (fun c336 => ?_) (fun c336 => ?_)
  rotate_left
  · exact absurd rfl c336
  refine zi_iload O d_Mod_push_344 rfl ?_
  refine zi_selfV O c_Mod_194 k_Mod_cross (m_Mod_cross (by omega) 3 0 (by decide) (by decide)) d_Mod_push_346 ⟨(Nat.le_of_ble_eq_true rfl), (Nat.le_of_ble_eq_true rfl)⟩ ⟨(Nat.le_of_ble_eq_true rfl), (Nat.le_of_ble_eq_true rfl)⟩ rfl rfl (Nat.le_of_ble_eq_true rfl) rfl rfl rfl (Nat.le_of_ble_eq_true rfl) rfl (fun r h' hq hl => ?_)
  obtain ⟨rfl, rfl⟩ := hq
  refine zi_st (st' := []) rfl ?_
  refine zi_iconstN O 1 d_Mod_push_349 (by decide) ?_
  refine zi_zret O d_Mod_push_350 rfl (Nat.le_of_ble_eq_true rfl) (Nat.le_of_ble_eq_true rfl) (Nat.le_of_ble_eq_true rfl) ?_
  have hR2 := rowOK_up (rowOK_up hR (to_ e) v (by omega)) (to_ f) z (by omega)
  refine Or.inr ⟨e, f, hok, rfl, _, _, _, _, _, _, _, _, _, _, _, _, _, _, _, _, _, _, _, _, _, rfl, ?_, sg_upd (sg_upd hS _) _, sg_add (sg_add hG (by decide)) (by decide), hPR, hPS, hPG⟩
  exact rowOK_ad (l0 := u) (l1 := w) (l2 := v) (l3 := z) (rowOK_ad (l0 := el e) (l1 := w) (l2 := u) (l3 := el f) hR2 (by omega) (by omega) (by omega) (by omega) (by omega)) (by omega) (by omega) (by omega) (by omega) (by omega)
set_option maxHeartbeats 4000000 in
theorem m_Mod_push_011 (hM : Mdl k plab T n lab S0 ci h) (hE : Ed n lab S0 el fr to_ at_) (hP : PcE (2 * n) n fr to_ oc) (x y : Int32) (u v w z : Nat) (hu : u = fN el 0 (2 * n)) (hv : v = fN el u (2 * n)) (hw : w = fN el v (2 * n)) (hzz : z = fN el w (2 * n)) : zMet y_Mod_push b_Mod_push 11 (some .boolean) ⟨7, 0, 0, 200⟩ [.ref 0, .int x, .int (bI false), .int y, .int (bI true), .int (bI true)] h
    (fun r h' => (r = some (.int (nI 0)) ∧ Mdl k plab T n lab S0 ci h' ∧ ∀ e f, ¬ PushOK n el fr to_ at_ oc x y false true e f) ∨ (∃ e f, PushOK n el fr to_ at_ oc x y false true e f ∧ r = some (.int (nI 1)) ∧ Mdl k plab T (n + 1 + 1) (phL true true false (va_up (va_up lab (to_ e) v) (to_ f) z) n (el e) u v (el f) w z) (upd (upd S0 n (phS true true false)) (n + 1) (-(phS true true false))) ci h')) := by
  have hM0 := hM
  obtain ⟨wrong, pS, pL, oN, oC, S, L, oS, oL, labs, row, fresh, piece, closed, faces, comp, fof, sides, side, free, arnd, rfl, hR, hS, hG, hPR, hPS, hPG⟩ := hM
  have hn := hR.1
  have hE' := ed_same hE (fun _ _ => rfl) hS
  have hG' := sg_same hG hS
  have bu := fN_le el 0 (2 * n)
  have bv := fN_le el u (2 * n)
  have bw := fN_le el v (2 * n)
  have bz := fN_le el w (2 * n)
  rw [← hu] at bu
  rw [← hv] at bv
  rw [← hw] at bw
  rw [← hzz] at bz
  refine zMet_of (plainFor_of_name (by decide +kernel)) rfl (Nat.le_of_ble_eq_true rfl) (fun z1 z2 z3 z4 z5 z6 z7 z8 z9 z10 z11 z12 z13 z14 O hin => ?_)
  refine zi_ls (ls' := [some (.ref 0), some (.int x), some (.int (bI false)), some (.int y), some (.int (bI true)), some (.int (bI true)), none, none, none, none, none]) rfl ?_
  have bad : (∀ e f, ¬ PushOK n el fr to_ at_ oc x y false true e f) → zG z1 z2 z3 z4 z5 z6 z7 z8 z9 z10 z11 z12 z13 z14 15 11 (fun r h' => (r = some (.int (nI 0)) ∧ Mdl k plab T n lab S0 ci h' ∧ ∀ e f, ¬ PushOK n el fr to_ at_ oc x y false true e f) ∨ (∃ e f, PushOK n el fr to_ at_ oc x y false true e f ∧ r = some (.int (nI 1)) ∧ Mdl k plab T (n + 1 + 1) (phL true true false (va_up (va_up lab (to_ e) v) (to_ f) z) n (el e) u v (el f) w z) (upd (upd S0 n (phS true true false)) (n + 1) (-(phS true true false))) ci h')) 0 0 0 0 35 [some (.ref 0), some (.int x), some (.int (bI false)), some (.int y), some (.int (bI true)), some (.int (bI true)), none, none, none, none, none] [] (mh k wrong pS pL n ci oN oC S L oS oL labs row fresh piece closed faces comp fof sides side free arnd) := by
    intro hno
    refine zi_iconstN O 0 d_Mod_push_35 (by decide) ?_
    refine zi_istore (ls' := _ :: _ :: _ :: _ :: _ :: _ :: some _ :: _) O d_Mod_push_36 rfl (by decide) rfl ?_
    refine zi_iload O d_Mod_push_38 rfl ?_
    refine zi_if_eq O 80 d_Mod_push_40 (by decide) (fun c40 => ?_) (fun c40 => ?_)
    · refine zi_iconstN O 0 d_Mod_push_80 (by decide) ?_
      refine zi_zret O d_Mod_push_81 rfl (Nat.le_of_ble_eq_true rfl) (Nat.le_of_ble_eq_true rfl) (Nat.le_of_ble_eq_true rfl) ?_
      exact Or.inl ⟨rfl, hM0, hno⟩
    · exact absurd rfl c40
  refine zi_iload_n O d_Mod_push_0 rfl ?_
  refine zi_if_le O 35 d_Mod_push_1 (by decide) (fun c1 => ?_) (fun c1 => ?_)
  · refine bad (fun e f q => ?_)
    have := el_ok hR hE q.1
    rw [q.2.2.1] at c1
    exact nI_nle (by omega) (by omega) c1
  obtain ⟨l, rfl, hl1, hl2⟩ := pos_nat c1
  refine zi_iload_n O d_Mod_push_4 rfl ?_
  refine zi_if_le O 35 d_Mod_push_5 (by decide) (fun c5 => ?_) (fun c5 => ?_)
  · refine bad (fun e f q => ?_)
    have := el_ok hR hE q.2.1
    rw [q.2.2.2.1] at c5
    exact nI_nle (by omega) (by omega) c5
  obtain ⟨m, rfl, hm1, hm2⟩ := pos_nat c5
  refine zi_iload_n O d_Mod_push_8 rfl ?_
  refine zi_iload_n O d_Mod_push_9 rfl ?_
  refine zi_icmp_eq O 35 d_Mod_push_10 (by decide) (fun c10 => ?_) (fun c10 => ?_)
  · refine bad (fun e f q => ?_)
    exact q.2.2.2.2.1 (el_uniq hR hE q.1 q.2.1 (by rw [← q.2.2.1, ← q.2.2.2.1]; exact c10))
  refine zi_aload_n O d_Mod_push_13 rfl ?_
  refine zi_iload_n O d_Mod_push_14 rfl ?_
  refine zi_iconstN O 1 d_Mod_push_15 (by decide) ?_
  refine zi_selfP O c_Mod_66 k_Mod_placeOf (m_Mod_placeOf lab hR hG' l 1 hl2) d_Mod_push_16 ⟨(Nat.le_of_ble_eq_true rfl), (Nat.le_of_ble_eq_true rfl)⟩ ⟨(Nat.le_of_ble_eq_true rfl), (Nat.le_of_ble_eq_true rfl)⟩ rfl rfl (Nat.le_of_ble_eq_true rfl) rfl rfl rfl (Nat.le_of_ble_eq_true rfl) rfl ?_
  by_cases c : ∃ e, e < 2 * n ∧ el e = l
  rotate_left
  · rw [plc_no hE' (fun e he z => c ⟨e, he, z⟩)]
    refine zi_if_lt O 35 d_Mod_push_19 (by decide) (fun c19 => ?_) (fun c19 => ?_)
    · refine bad (fun e f q => c ⟨e, q.1, ?_⟩)
      have := el_ok hR hE q.1
      exact ((nI_eq (by omega) (by omega)).mp q.2.2.1).symm
    · exact absurd (by decide) c19
  obtain ⟨e, he, rfl⟩ := c
  obtain ⟨f1, f2, f3, f4, f5, f6⟩ := hE.1 e he
  rw [plc_fr hE' he]
  refine zi_if_lt O 35 d_Mod_push_19 (by decide) (fun c19 => ?_) (fun c19 => ?_)
  · exact absurd c19 (nI_pos (by omega))
  refine zi_aload_n O d_Mod_push_22 rfl ?_
  refine zi_iload_n O d_Mod_push_23 rfl ?_
  refine zi_iconstN O 1 d_Mod_push_24 (by decide) ?_
  refine zi_selfP O c_Mod_66 k_Mod_placeOf (m_Mod_placeOf lab hR hG' m 1 hm2) d_Mod_push_25 ⟨(Nat.le_of_ble_eq_true rfl), (Nat.le_of_ble_eq_true rfl)⟩ ⟨(Nat.le_of_ble_eq_true rfl), (Nat.le_of_ble_eq_true rfl)⟩ rfl rfl (Nat.le_of_ble_eq_true rfl) rfl rfl rfl (Nat.le_of_ble_eq_true rfl) rfl ?_
  by_cases c : ∃ e, e < 2 * n ∧ el e = m
  rotate_left
  · rw [plc_no hE' (fun e he z => c ⟨e, he, z⟩)]
    refine zi_if_lt O 35 d_Mod_push_28 (by decide) (fun c28 => ?_) (fun c28 => ?_)
    · refine bad (fun e f q => c ⟨f, q.2.1, ?_⟩)
      have := el_ok hR hE q.2.1
      exact ((nI_eq (by omega) (by omega)).mp q.2.2.2.1).symm
    · exact absurd (by decide) c28
  obtain ⟨f, hf, rfl⟩ := c
  obtain ⟨g1, g2, g3, g4, g5, g6⟩ := hE.1 f hf
  rw [plc_fr hE' hf]
  refine zi_if_lt O 35 d_Mod_push_28 (by decide) (fun c28 => ?_) (fun c28 => ?_)
  · exact absurd c28 (nI_pos (by omega))
  have hef : e ≠ f := fun q => c10 (by rw [q])
  have only : ∀ e' f', PushOK n el fr to_ at_ oc (nI (el e)) (nI (el f)) false true e' f' → e' = e ∧ f' = f := fun e' f' q => ⟨(el_uniq hR hE he q.1 q.2.2.1).symm, (el_uniq hR hE hf q.2.1 q.2.2.2.1).symm⟩
  refine zi_iconstN O 1 d_Mod_push_31 (by decide) ?_
  refine zi_goto O 36 d_Mod_push_32 (by decide) ?_
  refine zi_istore (ls' := _ :: _ :: _ :: _ :: _ :: _ :: some _ :: _) O d_Mod_push_36 rfl (by decide) rfl ?_
  refine zi_iload O d_Mod_push_38 rfl ?_
  refine zi_if_eq O 80 d_Mod_push_40 (by decide) (fun c40 => ?_) (fun c40 => ?_)
  · exact absurd c40 (by decide)
  refine zi_aload_n O d_Mod_push_43 rfl ?_
  refine zi_get O f_Mod_59 d_Mod_push_44 rfl rfl ?_
  refine zi_bipushN O 18 d_Mod_push_47 (by decide) ?_
  refine zi_icmp_gtN O 80 d_Mod_push_49 (by decide) (by omega) (by omega) (fun c49 => ?_) (fun c49 => ?_)
  · refine zi_iconstN O 0 d_Mod_push_80 (by decide) ?_
    refine zi_zret O d_Mod_push_81 rfl (Nat.le_of_ble_eq_true rfl) (Nat.le_of_ble_eq_true rfl) (Nat.le_of_ble_eq_true rfl) ?_
    exact Or.inl ⟨rfl, hM0, fun e f q => by have := q.2.2.2.2.2.1; omega⟩
  refine zi_aload_n O d_Mod_push_52 rfl ?_
  refine zi_iload_n O d_Mod_push_53 rfl ?_
  refine zi_iload_n O d_Mod_push_54 rfl ?_
  refine zi_if_eq O 62 d_Mod_push_55 (by decide) (fun c55 => ?_) (fun c55 => ?_)
  rotate_left
  · exact absurd rfl c55
  refine zi_iconstN O 0 d_Mod_push_62 (by decide) ?_
  refine zi_iload_n O d_Mod_push_63 rfl ?_
  refine zi_iload O d_Mod_push_64 rfl ?_
  refine zi_if_eq O 73 d_Mod_push_66 (by decide) (fun c66 => ?_) (fun c66 => ?_)
  · exact absurd c66 (by decide)
  refine zi_iconstN O 1 d_Mod_push_69 (by decide) ?_
  refine zi_goto O 74 d_Mod_push_70 (by decide) ?_
  refine zi_selfV O c_Mod_190 k_Mod_areOne (m_Mod_areOne hR hG' hE' hP e f 0 1 he hf (by decide) (by decide)) d_Mod_push_74 ⟨(Nat.le_of_ble_eq_true rfl), (Nat.le_of_ble_eq_true rfl)⟩ ⟨(Nat.le_of_ble_eq_true rfl), (Nat.le_of_ble_eq_true rfl)⟩ rfl rfl (Nat.le_of_ble_eq_true rfl) rfl rfl rfl (Nat.le_of_ble_eq_true rfl) rfl (fun r h' hq hl => ?_)
  obtain ⟨hq, row', fof', piece', rfl⟩ := hq
  rcases hq with ⟨rfl, hmt⟩ | ⟨rfl, hmt⟩
  rotate_left
  · refine zi_st (st' := [.int (nI 0)]) rfl ?_
    refine zi_if_ne O 82 d_Mod_push_77 (by decide) (fun c77 => ?_) (fun c77 => ?_)
    · exact absurd rfl c77
    · refine zi_iconstN O 0 d_Mod_push_80 (by decide) ?_
      refine zi_zret O d_Mod_push_81 rfl (Nat.le_of_ble_eq_true rfl) (Nat.le_of_ble_eq_true rfl) (Nat.le_of_ble_eq_true rfl) ?_
      refine Or.inl ⟨rfl, ⟨_, _, _, _, _, _, _, _, _, _, _, _, _, _, _, _, _, _, _, _, _, rfl, hR, hS, hG, hPR, hPS, hPG⟩, fun e' f' q => ?_⟩
      obtain ⟨rfl, rfl⟩ := only e' f' q
      exact hmt q.2.2.2.2.2.2
  refine zi_st (st' := [.int (nI 1)]) rfl ?_
  refine zi_if_ne O 82 d_Mod_push_77 (by decide) (fun c77 => ?_) (fun c77 => ?_)
  rotate_left
  · exact absurd c77 (by decide)
  have hok : PushOK n el fr to_ at_ oc (nI (el e)) (nI (el f)) false true e f := ⟨he, hf, rfl, rfl, hef, by omega, hmt⟩
  refine zi_aload_n O d_Mod_push_82 rfl ?_
  refine zi_selfV O c_Mod_136 k_Mod_findFree (m_Mod_findFree hR hE') d_Mod_push_83 ⟨(Nat.le_of_ble_eq_true rfl), (Nat.le_of_ble_eq_true rfl)⟩ ⟨(Nat.le_of_ble_eq_true rfl), (Nat.le_of_ble_eq_true rfl)⟩ rfl rfl (Nat.le_of_ble_eq_true rfl) rfl rfl rfl (Nat.le_of_ble_eq_true rfl) rfl (fun r h' hq hl => ?_)
  obtain ⟨rfl, row'', free', rfl, -, hfr⟩ := hq
  refine zi_st (st' := []) rfl ?_
  have e0 : free' 0 = nI u := by rw [hfr 0 (by decide), hu]; rfl
  have e1 : free' 1 = nI v := by rw [hfr 1 (by decide), hv, hu]; rfl
  have e2 : free' 2 = nI w := by rw [hfr 2 (by decide), hw, hv, hu]; rfl
  have e3 : free' 3 = nI z := by rw [hfr 3 (by decide), hzz, hw, hv, hu]; rfl
  have be := el_ok hR hE he
  have bf := el_ok hR hE hf
  refine zi_aload_n O d_Mod_push_86 rfl ?_
  refine zi_iload_n O d_Mod_push_87 rfl ?_
  refine zi_iconstN O 0 d_Mod_push_88 (by decide) ?_
  refine zi_selfP O c_Mod_66 k_Mod_placeOf (m_Mod_to hR hG' hE' he) d_Mod_push_89 ⟨(Nat.le_of_ble_eq_true rfl), (Nat.le_of_ble_eq_true rfl)⟩ ⟨(Nat.le_of_ble_eq_true rfl), (Nat.le_of_ble_eq_true rfl)⟩ rfl rfl (Nat.le_of_ble_eq_true rfl) rfl rfl rfl (Nat.le_of_ble_eq_true rfl) rfl ?_
  refine zi_istore (ls' := _ :: _ :: _ :: _ :: _ :: _ :: _ :: some _ :: _) O d_Mod_push_92 rfl (by decide) rfl ?_
  refine zi_aload_n O d_Mod_push_94 rfl ?_
  refine zi_iload_n O d_Mod_push_95 rfl ?_
  refine zi_iconstN O 0 d_Mod_push_96 (by decide) ?_
  refine zi_selfP O c_Mod_66 k_Mod_placeOf (m_Mod_to hR hG' hE' hf) d_Mod_push_97 ⟨(Nat.le_of_ble_eq_true rfl), (Nat.le_of_ble_eq_true rfl)⟩ ⟨(Nat.le_of_ble_eq_true rfl), (Nat.le_of_ble_eq_true rfl)⟩ rfl rfl (Nat.le_of_ble_eq_true rfl) rfl rfl rfl (Nat.le_of_ble_eq_true rfl) rfl ?_
  refine zi_istore (ls' := _ :: _ :: _ :: _ :: _ :: _ :: _ :: _ :: some _ :: _) O d_Mod_push_100 rfl (by decide) rfl ?_
  refine zi_aload_n O d_Mod_push_102 rfl ?_
  refine zi_get O f_Mod_23 d_Mod_push_103 rfl rfl ?_
  refine zi_iload O d_Mod_push_106 rfl ?_
  refine zi_aload_n O d_Mod_push_108 rfl ?_
  refine zi_get O f_Mod_50 d_Mod_push_109 rfl rfl ?_
  refine zi_iconstN O 1 d_Mod_push_112 (by decide) ?_
  refine zi_iald O d_Mod_push_113 rfl rfl (by omega) (Nat.le_of_ble_eq_true rfl) ?_
  rw [e1]
  refine zi_iast O d_Mod_push_114 rfl rfl (by omega) (Nat.le_of_ble_eq_true rfl) (by dsimp only [List.set]) ?_
  refine zi_aload_n O d_Mod_push_115 rfl ?_
  refine zi_get O f_Mod_23 d_Mod_push_116 rfl rfl ?_
  refine zi_iload O d_Mod_push_119 rfl ?_
  refine zi_aload_n O d_Mod_push_121 rfl ?_
  refine zi_get O f_Mod_50 d_Mod_push_122 rfl rfl ?_
  refine zi_iconstN O 3 d_Mod_push_125 (by decide) ?_
  refine zi_iald O d_Mod_push_126 rfl rfl (by omega) (Nat.le_of_ble_eq_true rfl) ?_
  rw [e3]
  refine zi_iast O d_Mod_push_127 rfl rfl (by omega) (Nat.le_of_ble_eq_true rfl) (by dsimp only [List.set]) ?_
  refine zi_aload_n O d_Mod_push_128 rfl ?_
  refine zi_get O f_Mod_53 d_Mod_push_129 rfl rfl ?_
  refine zi_iconstN O 0 d_Mod_push_132 (by decide) ?_
  refine zi_aload_n O d_Mod_push_133 rfl ?_
  refine zi_get O f_Mod_50 d_Mod_push_134 rfl rfl ?_
  refine zi_iconstN O 2 d_Mod_push_137 (by decide) ?_
  refine zi_iald O d_Mod_push_138 rfl rfl (by omega) (Nat.le_of_ble_eq_true rfl) ?_
  rw [e2]
  refine zi_iast O d_Mod_push_139 rfl rfl (by omega) (Nat.le_of_ble_eq_true rfl) (by dsimp only [List.set]) ?_
  refine zi_aload_n O d_Mod_push_140 rfl ?_
  refine zi_get O f_Mod_53 d_Mod_push_141 rfl rfl ?_
  refine zi_iconstN O 1 d_Mod_push_144 (by decide) ?_
  refine zi_aload_n O d_Mod_push_145 rfl ?_
  refine zi_get O f_Mod_50 d_Mod_push_146 rfl rfl ?_
  refine zi_iconstN O 0 d_Mod_push_149 (by decide) ?_
  refine zi_iald O d_Mod_push_150 rfl rfl (by omega) (Nat.le_of_ble_eq_true rfl) ?_
  rw [e0]
  refine zi_iast O d_Mod_push_151 rfl rfl (by omega) (Nat.le_of_ble_eq_true rfl) (by dsimp only [List.set]) ?_
  refine zi_aload_n O d_Mod_push_152 rfl ?_
  refine zi_get O f_Mod_53 d_Mod_push_153 rfl rfl ?_
  refine zi_iconstN O 2 d_Mod_push_156 (by decide) ?_
  refine zi_iload O d_Mod_push_157 rfl ?_
  refine zi_if_eq O 166 d_Mod_push_159 (by decide) (fun c159 => ?_) (fun c159 => ?_)
  · exact absurd c159 (by decide)
  refine zi_iload_n O d_Mod_push_162 rfl ?_
  refine zi_goto O 172 d_Mod_push_163 (by decide) ?_
  refine zi_iast O d_Mod_push_172 rfl rfl (by omega) (Nat.le_of_ble_eq_true rfl) (by dsimp only [List.set]) ?_
  refine zi_aload_n O d_Mod_push_173 rfl ?_
  refine zi_get O f_Mod_53 d_Mod_push_174 rfl rfl ?_
  refine zi_iconstN O 3 d_Mod_push_177 (by decide) ?_
  refine zi_iload_n O d_Mod_push_178 rfl ?_
  refine zi_if_eq O 191 d_Mod_push_179 (by decide) (fun c179 => ?_) (fun c179 => ?_)
  rotate_left
  · exact absurd rfl c179
  refine zi_iload_n O d_Mod_push_191 rfl ?_
  refine zi_iast O d_Mod_push_192 rfl rfl (by omega) (Nat.le_of_ble_eq_true rfl) (by dsimp only [List.set]) ?_
  refine zi_iload_n O d_Mod_push_193 rfl ?_
  refine zi_if_eq O 201 d_Mod_push_194 (by decide) (fun c194 => ?_) (fun c194 => ?_)
  rotate_left
  · exact absurd rfl c194
  refine zi_iconstN O 3 d_Mod_push_201 (by decide) ?_
  refine zi_istore (ls' := _ :: _ :: _ :: _ :: _ :: _ :: _ :: _ :: _ :: some _ :: _) O d_Mod_push_202 rfl (by decide) rfl ?_
  refine zi_iload O d_Mod_push_204 rfl ?_
  refine zi_if_eq O 213 d_Mod_push_206 (by decide) (fun c206 => ?_) (fun c206 => ?_)
  · exact absurd c206 (by decide)
  refine zi_iconstN O 2 d_Mod_push_209 (by decide) ?_
  refine zi_goto O 214 d_Mod_push_210 (by decide) ?_
  refine zi_istore (ls' := _ :: _ :: _ :: _ :: _ :: _ :: _ :: _ :: _ :: _ :: some _ :: _) O d_Mod_push_214 rfl (by decide) rfl ?_
  refine zi_aload_n O d_Mod_push_216 rfl ?_
  refine zi_iload O d_Mod_push_217 rfl ?_
  refine zi_if_eq O 227 d_Mod_push_219 (by decide) (fun c219 => ?_) (fun c219 => ?_)
  · exact absurd c219 (by decide)
  refine zi_iload O d_Mod_push_222 rfl ?_
  refine zi_goto O 229 d_Mod_push_224 (by decide) ?_
  refine zi_iload O d_Mod_push_229 rfl ?_
  refine zi_if_eq O 239 d_Mod_push_231 (by decide) (fun c231 => ?_) (fun c231 => ?_)
  · exact absurd c231 (by decide)
  refine zi_iload O d_Mod_push_234 rfl ?_
  refine zi_goto O 241 d_Mod_push_236 (by decide) ?_
  refine zi_selfV O c_Mod_194 k_Mod_cross (m_Mod_cross (by omega) 2 3 (by decide) (by decide)) d_Mod_push_241 ⟨(Nat.le_of_ble_eq_true rfl), (Nat.le_of_ble_eq_true rfl)⟩ ⟨(Nat.le_of_ble_eq_true rfl), (Nat.le_of_ble_eq_true rfl)⟩ rfl rfl (Nat.le_of_ble_eq_true rfl) rfl rfl rfl (Nat.le_of_ble_eq_true rfl) rfl (fun r h' hq hl => ?_)
  obtain ⟨rfl, rfl⟩ := hq
  refine zi_st (st' := []) rfl ?_
  refine zi_aload_n O d_Mod_push_244 rfl ?_
  refine zi_get O f_Mod_53 d_Mod_push_245 rfl rfl ?_
  refine zi_iconstN O 0 d_Mod_push_248 (by decide) ?_
  refine zi_aload_n O d_Mod_push_249 rfl ?_
  refine zi_get O f_Mod_50 d_Mod_push_250 rfl rfl ?_
  refine zi_iconstN O 2 d_Mod_push_253 (by decide) ?_
  refine zi_iald O d_Mod_push_254 rfl rfl (by omega) (Nat.le_of_ble_eq_true rfl) ?_
  rw [e2]
  refine zi_iast O d_Mod_push_255 rfl rfl (by omega) (Nat.le_of_ble_eq_true rfl) (by dsimp only [List.set]) ?_
  refine zi_aload_n O d_Mod_push_256 rfl ?_
  refine zi_get O f_Mod_53 d_Mod_push_257 rfl rfl ?_
  refine zi_iconstN O 1 d_Mod_push_260 (by decide) ?_
  refine zi_iload_n O d_Mod_push_261 rfl ?_
  refine zi_if_eq O 269 d_Mod_push_262 (by decide) (fun c262 => ?_) (fun c262 => ?_)
  rotate_left
  · exact absurd rfl c262
  refine zi_aload_n O d_Mod_push_269 rfl ?_
  refine zi_get O f_Mod_50 d_Mod_push_270 rfl rfl ?_
  refine zi_iconstN O 1 d_Mod_push_273 (by decide) ?_
  refine zi_iald O d_Mod_push_274 rfl rfl (by omega) (Nat.le_of_ble_eq_true rfl) ?_
  rw [e1]
  refine zi_iast O d_Mod_push_275 rfl rfl (by omega) (Nat.le_of_ble_eq_true rfl) (by dsimp only [List.set]) ?_
  refine zi_aload_n O d_Mod_push_276 rfl ?_
  refine zi_get O f_Mod_53 d_Mod_push_277 rfl rfl ?_
  refine zi_iconstN O 2 d_Mod_push_280 (by decide) ?_
  refine zi_iload O d_Mod_push_281 rfl ?_
  refine zi_if_eq O 295 d_Mod_push_283 (by decide) (fun c283 => ?_) (fun c283 => ?_)
  · exact absurd c283 (by decide)
  refine zi_aload_n O d_Mod_push_286 rfl ?_
  refine zi_get O f_Mod_50 d_Mod_push_287 rfl rfl ?_
  refine zi_iconstN O 3 d_Mod_push_290 (by decide) ?_
  refine zi_iald O d_Mod_push_291 rfl rfl (by omega) (Nat.le_of_ble_eq_true rfl) ?_
  rw [e3]
  refine zi_goto O 296 d_Mod_push_292 (by decide) ?_
  refine zi_iast O d_Mod_push_296 rfl rfl (by omega) (Nat.le_of_ble_eq_true rfl) (by dsimp only [List.set]) ?_
  refine zi_aload_n O d_Mod_push_297 rfl ?_
  refine zi_get O f_Mod_53 d_Mod_push_298 rfl rfl ?_
  refine zi_iconstN O 3 d_Mod_push_301 (by decide) ?_
  refine zi_aload_n O d_Mod_push_302 rfl ?_
  refine zi_get O f_Mod_50 d_Mod_push_303 rfl rfl ?_
  refine zi_iconstN O 0 d_Mod_push_306 (by decide) ?_
  refine zi_iald O d_Mod_push_307 rfl rfl (by omega) (Nat.le_of_ble_eq_true rfl) ?_
  rw [e0]
  refine zi_iast O d_Mod_push_308 rfl rfl (by omega) (Nat.le_of_ble_eq_true rfl) (by dsimp only [List.set]) ?_
  refine zi_iload O d_Mod_push_309 rfl ?_
  refine zi_if_eq O 318 d_Mod_push_311 (by decide) (fun c311 => ?_) (fun c311 => ?_)
  · exact absurd c311 (by decide)
  refine zi_iconstN O 0 d_Mod_push_314 (by decide) ?_
  refine zi_goto O 319 d_Mod_push_315 (by decide) ?_
  refine zi_istore (ls' := _ :: _ :: _ :: _ :: _ :: _ :: _ :: _ :: _ :: _ :: some _ :: _) O d_Mod_push_319 rfl (by decide) rfl ?_
  refine zi_aload_n O d_Mod_push_321 rfl ?_
  refine zi_iload O d_Mod_push_322 rfl ?_
  refine zi_if_eq O 332 d_Mod_push_324 (by decide) (fun c324 => ?_) (fun c324 => ?_)
  · exact absurd c324 (by decide)
  refine zi_iload O d_Mod_push_327 rfl ?_
  refine zi_goto O 334 d_Mod_push_329 (by decide) ?_
  refine zi_iload O d_Mod_push_334 rfl ?_
  refine zi_if_eq O 344 d_Mod_push_336 (by decide) (fun c336 => ?_) (fun c336 => ?_)
  · exact absurd c336 (by decide)
  refine zi_iload O d_Mod_push_339 rfl ?_
  refine zi_goto O 346 d_Mod_push_341 (by decide) ?_
  refine zi_selfV O c_Mod_194 k_Mod_cross (m_Mod_cross (by omega) 0 3 (by decide) (by decide)) d_Mod_push_346 ⟨(Nat.le_of_ble_eq_true rfl), (Nat.le_of_ble_eq_true rfl)⟩ ⟨(Nat.le_of_ble_eq_true rfl), (Nat.le_of_ble_eq_true rfl)⟩ rfl rfl (Nat.le_of_ble_eq_true rfl) rfl rfl rfl (Nat.le_of_ble_eq_true rfl) rfl (fun r h' hq hl => ?_)
  obtain ⟨rfl, rfl⟩ := hq
  refine zi_st (st' := []) rfl ?_
  refine zi_iconstN O 1 d_Mod_push_349 (by decide) ?_
  refine zi_zret O d_Mod_push_350 rfl (Nat.le_of_ble_eq_true rfl) (Nat.le_of_ble_eq_true rfl) (Nat.le_of_ble_eq_true rfl) ?_
  have hR2 := rowOK_up (rowOK_up hR (to_ e) v (by omega)) (to_ f) z (by omega)
  refine Or.inr ⟨e, f, hok, rfl, _, _, _, _, _, _, _, _, _, _, _, _, _, _, _, _, _, _, _, _, _, rfl, ?_, sg_upd (sg_upd hS _) _, sg_add (sg_add hG (by decide)) (by decide), hPR, hPS, hPG⟩
  exact rowOK_ad (l0 := w) (l1 := v) (l2 := z) (l3 := u) (rowOK_ad (l0 := el f) (l1 := el e) (l2 := w) (l3 := u) hR2 (by omega) (by omega) (by omega) (by omega) (by omega)) (by omega) (by omega) (by omega) (by omega) (by omega)
set_option maxHeartbeats 4000000 in
theorem m_Mod_push_100 (hM : Mdl k plab T n lab S0 ci h) (hE : Ed n lab S0 el fr to_ at_) (hP : PcE (2 * n) n fr to_ oc) (x y : Int32) (u v w z : Nat) (hu : u = fN el 0 (2 * n)) (hv : v = fN el u (2 * n)) (hw : w = fN el v (2 * n)) (hzz : z = fN el w (2 * n)) : zMet y_Mod_push b_Mod_push 11 (some .boolean) ⟨7, 0, 0, 200⟩ [.ref 0, .int x, .int (bI true), .int y, .int (bI false), .int (bI false)] h
    (fun r h' => (r = some (.int (nI 0)) ∧ Mdl k plab T n lab S0 ci h' ∧ ∀ e f, ¬ PushOK n el fr to_ at_ oc x y true false e f) ∨ (∃ e f, PushOK n el fr to_ at_ oc x y true false e f ∧ r = some (.int (nI 1)) ∧ Mdl k plab T (n + 1 + 1) (phL false false true (va_up (va_up lab (to_ e) v) (to_ f) z) n (el e) u v (el f) w z) (upd (upd S0 n (phS false false true)) (n + 1) (-(phS false false true))) ci h')) := by
  have hM0 := hM
  obtain ⟨wrong, pS, pL, oN, oC, S, L, oS, oL, labs, row, fresh, piece, closed, faces, comp, fof, sides, side, free, arnd, rfl, hR, hS, hG, hPR, hPS, hPG⟩ := hM
  have hn := hR.1
  have hE' := ed_same hE (fun _ _ => rfl) hS
  have hG' := sg_same hG hS
  have bu := fN_le el 0 (2 * n)
  have bv := fN_le el u (2 * n)
  have bw := fN_le el v (2 * n)
  have bz := fN_le el w (2 * n)
  rw [← hu] at bu
  rw [← hv] at bv
  rw [← hw] at bw
  rw [← hzz] at bz
  refine zMet_of (plainFor_of_name (by decide +kernel)) rfl (Nat.le_of_ble_eq_true rfl) (fun z1 z2 z3 z4 z5 z6 z7 z8 z9 z10 z11 z12 z13 z14 O hin => ?_)
  refine zi_ls (ls' := [some (.ref 0), some (.int x), some (.int (bI true)), some (.int y), some (.int (bI false)), some (.int (bI false)), none, none, none, none, none]) rfl ?_
  have bad : (∀ e f, ¬ PushOK n el fr to_ at_ oc x y true false e f) → zG z1 z2 z3 z4 z5 z6 z7 z8 z9 z10 z11 z12 z13 z14 15 11 (fun r h' => (r = some (.int (nI 0)) ∧ Mdl k plab T n lab S0 ci h' ∧ ∀ e f, ¬ PushOK n el fr to_ at_ oc x y true false e f) ∨ (∃ e f, PushOK n el fr to_ at_ oc x y true false e f ∧ r = some (.int (nI 1)) ∧ Mdl k plab T (n + 1 + 1) (phL false false true (va_up (va_up lab (to_ e) v) (to_ f) z) n (el e) u v (el f) w z) (upd (upd S0 n (phS false false true)) (n + 1) (-(phS false false true))) ci h')) 0 0 0 0 35 [some (.ref 0), some (.int x), some (.int (bI true)), some (.int y), some (.int (bI false)), some (.int (bI false)), none, none, none, none, none] [] (mh k wrong pS pL n ci oN oC S L oS oL labs row fresh piece closed faces comp fof sides side free arnd) := by
    intro hno
    refine zi_iconstN O 0 d_Mod_push_35 (by decide) ?_
    refine zi_istore (ls' := _ :: _ :: _ :: _ :: _ :: _ :: some _ :: _) O d_Mod_push_36 rfl (by decide) rfl ?_
    refine zi_iload O d_Mod_push_38 rfl ?_
    refine zi_if_eq O 80 d_Mod_push_40 (by decide) (fun c40 => ?_) (fun c40 => ?_)
    · refine zi_iconstN O 0 d_Mod_push_80 (by decide) ?_
      refine zi_zret O d_Mod_push_81 rfl (Nat.le_of_ble_eq_true rfl) (Nat.le_of_ble_eq_true rfl) (Nat.le_of_ble_eq_true rfl) ?_
      exact Or.inl ⟨rfl, hM0, hno⟩
    · exact absurd rfl c40
  refine zi_iload_n O d_Mod_push_0 rfl ?_
  refine zi_if_le O 35 d_Mod_push_1 (by decide) (fun c1 => ?_) (fun c1 => ?_)
  · refine bad (fun e f q => ?_)
    have := el_ok hR hE q.1
    rw [q.2.2.1] at c1
    exact nI_nle (by omega) (by omega) c1
  obtain ⟨l, rfl, hl1, hl2⟩ := pos_nat c1
  refine zi_iload_n O d_Mod_push_4 rfl ?_
  refine zi_if_le O 35 d_Mod_push_5 (by decide) (fun c5 => ?_) (fun c5 => ?_)
  · refine bad (fun e f q => ?_)
    have := el_ok hR hE q.2.1
    rw [q.2.2.2.1] at c5
    exact nI_nle (by omega) (by omega) c5
  obtain ⟨m, rfl, hm1, hm2⟩ := pos_nat c5
  refine zi_iload_n O d_Mod_push_8 rfl ?_
  refine zi_iload_n O d_Mod_push_9 rfl ?_
  refine zi_icmp_eq O 35 d_Mod_push_10 (by decide) (fun c10 => ?_) (fun c10 => ?_)
  · refine bad (fun e f q => ?_)
    exact q.2.2.2.2.1 (el_uniq hR hE q.1 q.2.1 (by rw [← q.2.2.1, ← q.2.2.2.1]; exact c10))
  refine zi_aload_n O d_Mod_push_13 rfl ?_
  refine zi_iload_n O d_Mod_push_14 rfl ?_
  refine zi_iconstN O 1 d_Mod_push_15 (by decide) ?_
  refine zi_selfP O c_Mod_66 k_Mod_placeOf (m_Mod_placeOf lab hR hG' l 1 hl2) d_Mod_push_16 ⟨(Nat.le_of_ble_eq_true rfl), (Nat.le_of_ble_eq_true rfl)⟩ ⟨(Nat.le_of_ble_eq_true rfl), (Nat.le_of_ble_eq_true rfl)⟩ rfl rfl (Nat.le_of_ble_eq_true rfl) rfl rfl rfl (Nat.le_of_ble_eq_true rfl) rfl ?_
  by_cases c : ∃ e, e < 2 * n ∧ el e = l
  rotate_left
  · rw [plc_no hE' (fun e he z => c ⟨e, he, z⟩)]
    refine zi_if_lt O 35 d_Mod_push_19 (by decide) (fun c19 => ?_) (fun c19 => ?_)
    · refine bad (fun e f q => c ⟨e, q.1, ?_⟩)
      have := el_ok hR hE q.1
      exact ((nI_eq (by omega) (by omega)).mp q.2.2.1).symm
    · exact absurd (by decide) c19
  obtain ⟨e, he, rfl⟩ := c
  obtain ⟨f1, f2, f3, f4, f5, f6⟩ := hE.1 e he
  rw [plc_fr hE' he]
  refine zi_if_lt O 35 d_Mod_push_19 (by decide) (fun c19 => ?_) (fun c19 => ?_)
  · exact absurd c19 (nI_pos (by omega))
  refine zi_aload_n O d_Mod_push_22 rfl ?_
  refine zi_iload_n O d_Mod_push_23 rfl ?_
  refine zi_iconstN O 1 d_Mod_push_24 (by decide) ?_
  refine zi_selfP O c_Mod_66 k_Mod_placeOf (m_Mod_placeOf lab hR hG' m 1 hm2) d_Mod_push_25 ⟨(Nat.le_of_ble_eq_true rfl), (Nat.le_of_ble_eq_true rfl)⟩ ⟨(Nat.le_of_ble_eq_true rfl), (Nat.le_of_ble_eq_true rfl)⟩ rfl rfl (Nat.le_of_ble_eq_true rfl) rfl rfl rfl (Nat.le_of_ble_eq_true rfl) rfl ?_
  by_cases c : ∃ e, e < 2 * n ∧ el e = m
  rotate_left
  · rw [plc_no hE' (fun e he z => c ⟨e, he, z⟩)]
    refine zi_if_lt O 35 d_Mod_push_28 (by decide) (fun c28 => ?_) (fun c28 => ?_)
    · refine bad (fun e f q => c ⟨f, q.2.1, ?_⟩)
      have := el_ok hR hE q.2.1
      exact ((nI_eq (by omega) (by omega)).mp q.2.2.2.1).symm
    · exact absurd (by decide) c28
  obtain ⟨f, hf, rfl⟩ := c
  obtain ⟨g1, g2, g3, g4, g5, g6⟩ := hE.1 f hf
  rw [plc_fr hE' hf]
  refine zi_if_lt O 35 d_Mod_push_28 (by decide) (fun c28 => ?_) (fun c28 => ?_)
  · exact absurd c28 (nI_pos (by omega))
  have hef : e ≠ f := fun q => c10 (by rw [q])
  have only : ∀ e' f', PushOK n el fr to_ at_ oc (nI (el e)) (nI (el f)) true false e' f' → e' = e ∧ f' = f := fun e' f' q => ⟨(el_uniq hR hE he q.1 q.2.2.1).symm, (el_uniq hR hE hf q.2.1 q.2.2.2.1).symm⟩
  refine zi_iconstN O 1 d_Mod_push_31 (by decide) ?_
  refine zi_goto O 36 d_Mod_push_32 (by decide) ?_
  refine zi_istore (ls' := _ :: _ :: _ :: _ :: _ :: _ :: some _ :: _) O d_Mod_push_36 rfl (by decide) rfl ?_
  refine zi_iload O d_Mod_push_38 rfl ?_
  refine zi_if_eq O 80 d_Mod_push_40 (by decide) (fun c40 => ?_) (fun c40 => ?_)
  · exact absurd c40 (by decide)
  refine zi_aload_n O d_Mod_push_43 rfl ?_
  refine zi_get O f_Mod_59 d_Mod_push_44 rfl rfl ?_
  refine zi_bipushN O 18 d_Mod_push_47 (by decide) ?_
  refine zi_icmp_gtN O 80 d_Mod_push_49 (by decide) (by omega) (by omega) (fun c49 => ?_) (fun c49 => ?_)
  · refine zi_iconstN O 0 d_Mod_push_80 (by decide) ?_
    refine zi_zret O d_Mod_push_81 rfl (Nat.le_of_ble_eq_true rfl) (Nat.le_of_ble_eq_true rfl) (Nat.le_of_ble_eq_true rfl) ?_
    exact Or.inl ⟨rfl, hM0, fun e f q => by have := q.2.2.2.2.2.1; omega⟩
  refine zi_aload_n O d_Mod_push_52 rfl ?_
  refine zi_iload_n O d_Mod_push_53 rfl ?_
  refine zi_iload_n O d_Mod_push_54 rfl ?_
  refine zi_if_eq O 62 d_Mod_push_55 (by decide) (fun c55 => ?_) (fun c55 => ?_)
  · exact absurd c55 (by decide)
  refine zi_iconstN O 1 d_Mod_push_58 (by decide) ?_
  refine zi_goto O 63 d_Mod_push_59 (by decide) ?_
  refine zi_iload_n O d_Mod_push_63 rfl ?_
  refine zi_iload O d_Mod_push_64 rfl ?_
  refine zi_if_eq O 73 d_Mod_push_66 (by decide) (fun c66 => ?_) (fun c66 => ?_)
  rotate_left
  · exact absurd rfl c66
  refine zi_iconstN O 0 d_Mod_push_73 (by decide) ?_
  refine zi_selfV O c_Mod_190 k_Mod_areOne (m_Mod_areOne hR hG' hE' hP e f 1 0 he hf (by decide) (by decide)) d_Mod_push_74 ⟨(Nat.le_of_ble_eq_true rfl), (Nat.le_of_ble_eq_true rfl)⟩ ⟨(Nat.le_of_ble_eq_true rfl), (Nat.le_of_ble_eq_true rfl)⟩ rfl rfl (Nat.le_of_ble_eq_true rfl) rfl rfl rfl (Nat.le_of_ble_eq_true rfl) rfl (fun r h' hq hl => ?_)
  obtain ⟨hq, row', fof', piece', rfl⟩ := hq
  rcases hq with ⟨rfl, hmt⟩ | ⟨rfl, hmt⟩
  rotate_left
  · refine zi_st (st' := [.int (nI 0)]) rfl ?_
    refine zi_if_ne O 82 d_Mod_push_77 (by decide) (fun c77 => ?_) (fun c77 => ?_)
    · exact absurd rfl c77
    · refine zi_iconstN O 0 d_Mod_push_80 (by decide) ?_
      refine zi_zret O d_Mod_push_81 rfl (Nat.le_of_ble_eq_true rfl) (Nat.le_of_ble_eq_true rfl) (Nat.le_of_ble_eq_true rfl) ?_
      refine Or.inl ⟨rfl, ⟨_, _, _, _, _, _, _, _, _, _, _, _, _, _, _, _, _, _, _, _, _, rfl, hR, hS, hG, hPR, hPS, hPG⟩, fun e' f' q => ?_⟩
      obtain ⟨rfl, rfl⟩ := only e' f' q
      exact hmt q.2.2.2.2.2.2
  refine zi_st (st' := [.int (nI 1)]) rfl ?_
  refine zi_if_ne O 82 d_Mod_push_77 (by decide) (fun c77 => ?_) (fun c77 => ?_)
  rotate_left
  · exact absurd c77 (by decide)
  have hok : PushOK n el fr to_ at_ oc (nI (el e)) (nI (el f)) true false e f := ⟨he, hf, rfl, rfl, hef, by omega, hmt⟩
  refine zi_aload_n O d_Mod_push_82 rfl ?_
  refine zi_selfV O c_Mod_136 k_Mod_findFree (m_Mod_findFree hR hE') d_Mod_push_83 ⟨(Nat.le_of_ble_eq_true rfl), (Nat.le_of_ble_eq_true rfl)⟩ ⟨(Nat.le_of_ble_eq_true rfl), (Nat.le_of_ble_eq_true rfl)⟩ rfl rfl (Nat.le_of_ble_eq_true rfl) rfl rfl rfl (Nat.le_of_ble_eq_true rfl) rfl (fun r h' hq hl => ?_)
  obtain ⟨rfl, row'', free', rfl, -, hfr⟩ := hq
  refine zi_st (st' := []) rfl ?_
  have e0 : free' 0 = nI u := by rw [hfr 0 (by decide), hu]; rfl
  have e1 : free' 1 = nI v := by rw [hfr 1 (by decide), hv, hu]; rfl
  have e2 : free' 2 = nI w := by rw [hfr 2 (by decide), hw, hv, hu]; rfl
  have e3 : free' 3 = nI z := by rw [hfr 3 (by decide), hzz, hw, hv, hu]; rfl
  have be := el_ok hR hE he
  have bf := el_ok hR hE hf
  refine zi_aload_n O d_Mod_push_86 rfl ?_
  refine zi_iload_n O d_Mod_push_87 rfl ?_
  refine zi_iconstN O 0 d_Mod_push_88 (by decide) ?_
  refine zi_selfP O c_Mod_66 k_Mod_placeOf (m_Mod_to hR hG' hE' he) d_Mod_push_89 ⟨(Nat.le_of_ble_eq_true rfl), (Nat.le_of_ble_eq_true rfl)⟩ ⟨(Nat.le_of_ble_eq_true rfl), (Nat.le_of_ble_eq_true rfl)⟩ rfl rfl (Nat.le_of_ble_eq_true rfl) rfl rfl rfl (Nat.le_of_ble_eq_true rfl) rfl ?_
  refine zi_istore (ls' := _ :: _ :: _ :: _ :: _ :: _ :: _ :: some _ :: _) O d_Mod_push_92 rfl (by decide) rfl ?_
  refine zi_aload_n O d_Mod_push_94 rfl ?_
  refine zi_iload_n O d_Mod_push_95 rfl ?_
  refine zi_iconstN O 0 d_Mod_push_96 (by decide) ?_
  refine zi_selfP O c_Mod_66 k_Mod_placeOf (m_Mod_to hR hG' hE' hf) d_Mod_push_97 ⟨(Nat.le_of_ble_eq_true rfl), (Nat.le_of_ble_eq_true rfl)⟩ ⟨(Nat.le_of_ble_eq_true rfl), (Nat.le_of_ble_eq_true rfl)⟩ rfl rfl (Nat.le_of_ble_eq_true rfl) rfl rfl rfl (Nat.le_of_ble_eq_true rfl) rfl ?_
  refine zi_istore (ls' := _ :: _ :: _ :: _ :: _ :: _ :: _ :: _ :: some _ :: _) O d_Mod_push_100 rfl (by decide) rfl ?_
  refine zi_aload_n O d_Mod_push_102 rfl ?_
  refine zi_get O f_Mod_23 d_Mod_push_103 rfl rfl ?_
  refine zi_iload O d_Mod_push_106 rfl ?_
  refine zi_aload_n O d_Mod_push_108 rfl ?_
  refine zi_get O f_Mod_50 d_Mod_push_109 rfl rfl ?_
  refine zi_iconstN O 1 d_Mod_push_112 (by decide) ?_
  refine zi_iald O d_Mod_push_113 rfl rfl (by omega) (Nat.le_of_ble_eq_true rfl) ?_
  rw [e1]
  refine zi_iast O d_Mod_push_114 rfl rfl (by omega) (Nat.le_of_ble_eq_true rfl) (by dsimp only [List.set]) ?_
  refine zi_aload_n O d_Mod_push_115 rfl ?_
  refine zi_get O f_Mod_23 d_Mod_push_116 rfl rfl ?_
  refine zi_iload O d_Mod_push_119 rfl ?_
  refine zi_aload_n O d_Mod_push_121 rfl ?_
  refine zi_get O f_Mod_50 d_Mod_push_122 rfl rfl ?_
  refine zi_iconstN O 3 d_Mod_push_125 (by decide) ?_
  refine zi_iald O d_Mod_push_126 rfl rfl (by omega) (Nat.le_of_ble_eq_true rfl) ?_
  rw [e3]
  refine zi_iast O d_Mod_push_127 rfl rfl (by omega) (Nat.le_of_ble_eq_true rfl) (by dsimp only [List.set]) ?_
  refine zi_aload_n O d_Mod_push_128 rfl ?_
  refine zi_get O f_Mod_53 d_Mod_push_129 rfl rfl ?_
  refine zi_iconstN O 0 d_Mod_push_132 (by decide) ?_
  refine zi_aload_n O d_Mod_push_133 rfl ?_
  refine zi_get O f_Mod_50 d_Mod_push_134 rfl rfl ?_
  refine zi_iconstN O 2 d_Mod_push_137 (by decide) ?_
  refine zi_iald O d_Mod_push_138 rfl rfl (by omega) (Nat.le_of_ble_eq_true rfl) ?_
  rw [e2]
  refine zi_iast O d_Mod_push_139 rfl rfl (by omega) (Nat.le_of_ble_eq_true rfl) (by dsimp only [List.set]) ?_
  refine zi_aload_n O d_Mod_push_140 rfl ?_
  refine zi_get O f_Mod_53 d_Mod_push_141 rfl rfl ?_
  refine zi_iconstN O 1 d_Mod_push_144 (by decide) ?_
  refine zi_aload_n O d_Mod_push_145 rfl ?_
  refine zi_get O f_Mod_50 d_Mod_push_146 rfl rfl ?_
  refine zi_iconstN O 0 d_Mod_push_149 (by decide) ?_
  refine zi_iald O d_Mod_push_150 rfl rfl (by omega) (Nat.le_of_ble_eq_true rfl) ?_
  rw [e0]
  refine zi_iast O d_Mod_push_151 rfl rfl (by omega) (Nat.le_of_ble_eq_true rfl) (by dsimp only [List.set]) ?_
  refine zi_aload_n O d_Mod_push_152 rfl ?_
  refine zi_get O f_Mod_53 d_Mod_push_153 rfl rfl ?_
  refine zi_iconstN O 2 d_Mod_push_156 (by decide) ?_
  refine zi_iload O d_Mod_push_157 rfl ?_
  refine zi_if_eq O 166 d_Mod_push_159 (by decide) (fun c159 => ?_) (fun c159 => ?_)
  rotate_left
  · exact absurd rfl c159
  refine zi_aload_n O d_Mod_push_166 rfl ?_
  refine zi_get O f_Mod_50 d_Mod_push_167 rfl rfl ?_
  refine zi_iconstN O 3 d_Mod_push_170 (by decide) ?_
  refine zi_iald O d_Mod_push_171 rfl rfl (by omega) (Nat.le_of_ble_eq_true rfl) ?_
  rw [e3]
  refine zi_iast O d_Mod_push_172 rfl rfl (by omega) (Nat.le_of_ble_eq_true rfl) (by dsimp only [List.set]) ?_
  refine zi_aload_n O d_Mod_push_173 rfl ?_
  refine zi_get O f_Mod_53 d_Mod_push_174 rfl rfl ?_
  refine zi_iconstN O 3 d_Mod_push_177 (by decide) ?_
  refine zi_iload_n O d_Mod_push_178 rfl ?_
  refine zi_if_eq O 191 d_Mod_push_179 (by decide) (fun c179 => ?_) (fun c179 => ?_)
  · exact absurd c179 (by decide)
  refine zi_aload_n O d_Mod_push_182 rfl ?_
  refine zi_get O f_Mod_50 d_Mod_push_183 rfl rfl ?_
  refine zi_iconstN O 1 d_Mod_push_186 (by decide) ?_
  refine zi_iald O d_Mod_push_187 rfl rfl (by omega) (Nat.le_of_ble_eq_true rfl) ?_
  rw [e1]
  refine zi_goto O 192 d_Mod_push_188 (by decide) ?_
  refine zi_iast O d_Mod_push_192 rfl rfl (by omega) (Nat.le_of_ble_eq_true rfl) (by dsimp only [List.set]) ?_
  refine zi_iload_n O d_Mod_push_193 rfl ?_
  refine zi_if_eq O 201 d_Mod_push_194 (by decide) (fun c194 => ?_) (fun c194 => ?_)
  · exact absurd c194 (by decide)
  refine zi_iconstN O 1 d_Mod_push_197 (by decide) ?_
  refine zi_goto O 202 d_Mod_push_198 (by decide) ?_
  refine zi_istore (ls' := _ :: _ :: _ :: _ :: _ :: _ :: _ :: _ :: _ :: some _ :: _) O d_Mod_push_202 rfl (by decide) rfl ?_
  refine zi_iload O d_Mod_push_204 rfl ?_
  refine zi_if_eq O 213 d_Mod_push_206 (by decide) (fun c206 => ?_) (fun c206 => ?_)
  rotate_left
  · exact absurd rfl c206
  refine zi_iconstN O 0 d_Mod_push_213 (by decide) ?_
  refine zi_istore (ls' := _ :: _ :: _ :: _ :: _ :: _ :: _ :: _ :: _ :: _ :: some _ :: _) O d_Mod_push_214 rfl (by decide) rfl ?_
  refine zi_aload_n O d_Mod_push_216 rfl ?_
  refine zi_iload O d_Mod_push_217 rfl ?_
  refine zi_if_eq O 227 d_Mod_push_219 (by decide) (fun c219 => ?_) (fun c219 => ?_)
  rotate_left
  · exact absurd rfl c219
  refine zi_iload O d_Mod_push_227 rfl ?_
  refine zi_iload O d_Mod_push_229 rfl ?_
  refine zi_if_eq O 239 d_Mod_push_231 (by decide) (fun c231 => ?_) (fun c231 => ?_)
  rotate_left
  · exact absurd rfl c231
  refine zi_iload O d_Mod_push_239 rfl ?_
  refine zi_selfV O c_Mod_194 k_Mod_cross (m_Mod_cross (by omega) 1 0 (by decide) (by decide)) d_Mod_push_241 ⟨(Nat.le_of_ble_eq_true rfl), (Nat.le_of_ble_eq_true rfl)⟩ ⟨(Nat.le_of_ble_eq_true rfl), (Nat.le_of_ble_eq_true rfl)⟩ rfl rfl (Nat.le_of_ble_eq_true rfl) rfl rfl rfl (Nat.le_of_ble_eq_true rfl) rfl (fun r h' hq hl => ?_)
  obtain ⟨rfl, rfl⟩ := hq
  refine zi_st (st' := []) rfl ?_
  refine zi_aload_n O d_Mod_push_244 rfl ?_
  refine zi_get O f_Mod_53 d_Mod_push_245 rfl rfl ?_
  refine zi_iconstN O 0 d_Mod_push_248 (by decide) ?_
  refine zi_aload_n O d_Mod_push_249 rfl ?_
  refine zi_get O f_Mod_50 d_Mod_push_250 rfl rfl ?_
  refine zi_iconstN O 2 d_Mod_push_253 (by decide) ?_
  refine zi_iald O d_Mod_push_254 rfl rfl (by omega) (Nat.le_of_ble_eq_true rfl) ?_
  rw [e2]
  refine zi_iast O d_Mod_push_255 rfl rfl (by omega) (Nat.le_of_ble_eq_true rfl) (by dsimp only [List.set]) ?_
  refine zi_aload_n O d_Mod_push_256 rfl ?_
  refine zi_get O f_Mod_53 d_Mod_push_257 rfl rfl ?_
  refine zi_iconstN O 1 d_Mod_push_260 (by decide) ?_
  refine zi_iload_n O d_Mod_push_261 rfl ?_
  refine zi_if_eq O 269 d_Mod_push_262 (by decide) (fun c262 => ?_) (fun c262 => ?_)
  · exact absurd c262 (by decide)
  refine zi_iload_n O d_Mod_push_265 rfl ?_
  refine zi_goto O 275 d_Mod_push_266 (by decide) ?_
  refine zi_iast O d_Mod_push_275 rfl rfl (by omega) (Nat.le_of_ble_eq_true rfl) (by dsimp only [List.set]) ?_
  refine zi_aload_n O d_Mod_push_276 rfl ?_
  refine zi_get O f_Mod_53 d_Mod_push_277 rfl rfl ?_
  refine zi_iconstN O 2 d_Mod_push_280 (by decide) ?_
  refine zi_iload O d_Mod_push_281 rfl ?_
  refine zi_if_eq O 295 d_Mod_push_283 (by decide) (fun c283 => ?_) (fun c283 => ?_)
  rotate_left
  · exact absurd rfl c283
  refine zi_iload_n O d_Mod_push_295 rfl ?_
  refine zi_iast O d_Mod_push_296 rfl rfl (by omega) (Nat.le_of_ble_eq_true rfl) (by dsimp only [List.set]) ?_
  refine zi_aload_n O d_Mod_push_297 rfl ?_
  refine zi_get O f_Mod_53 d_Mod_push_298 rfl rfl ?_
  refine zi_iconstN O 3 d_Mod_push_301 (by decide) ?_
  refine zi_aload_n O d_Mod_push_302 rfl ?_
  refine zi_get O f_Mod_50 d_Mod_push_303 rfl rfl ?_
  refine zi_iconstN O 0 d_Mod_push_306 (by decide) ?_
  refine zi_iald O d_Mod_push_307 rfl rfl (by omega) (Nat.le_of_ble_eq_true rfl) ?_
  rw [e0]
  refine zi_iast O d_Mod_push_308 rfl rfl (by omega) (Nat.le_of_ble_eq_true rfl) (by dsimp only [List.set]) ?_
  refine zi_iload O d_Mod_push_309 rfl ?_
  refine zi_if_eq O 318 d_Mod_push_311 (by decide) (fun c311 => ?_) (fun c311 => ?_)
  rotate_left
  · exact absurd rfl c311
  refine zi_iconstN O 2 d_Mod_push_318 (by decide) ?_
  refine zi_istore (ls' := _ :: _ :: _ :: _ :: _ :: _ :: _ :: _ :: _ :: _ :: some _ :: _) O d_Mod_push_319 rfl (by decide) rfl ?_
  refine zi_aload_n O d_Mod_push_321 rfl ?_
  refine zi_iload O d_Mod_push_322 rfl ?_
  refine zi_if_eq O 332 d_Mod_push_324 (by decide) (fun c324 => ?_) (fun c324 => ?_)
  rotate_left
  · exact absurd rfl c324
  refine zi_iload O d_Mod_push_332 rfl ?_
  refine zi_iload O d_Mod_push_334 rfl ?_
  refine zi_if_eq O 344 d_Mod_push_336 (by decide) (fun c336 => ?_) (fun c336 => ?_)
  rotate_left
  · exact absurd rfl c336
  refine zi_iload O d_Mod_push_344 rfl ?_
  refine zi_selfV O c_Mod_194 k_Mod_cross (m_Mod_cross (by omega) 1 2 (by decide) (by decide)) d_Mod_push_346 ⟨(Nat.le_of_ble_eq_true rfl), (Nat.le_of_ble_eq_true rfl)⟩ ⟨(Nat.le_of_ble_eq_true rfl), (Nat.le_of_ble_eq_true rfl)⟩ rfl rfl (Nat.le_of_ble_eq_true rfl) rfl rfl rfl (Nat.le_of_ble_eq_true rfl) rfl (fun r h' hq hl => ?_)
  obtain ⟨rfl, rfl⟩ := hq
  refine zi_st (st' := []) rfl ?_
  refine zi_iconstN O 1 d_Mod_push_349 (by decide) ?_
  refine zi_zret O d_Mod_push_350 rfl (Nat.le_of_ble_eq_true rfl) (Nat.le_of_ble_eq_true rfl) (Nat.le_of_ble_eq_true rfl) ?_
  have hR2 := rowOK_up (rowOK_up hR (to_ e) v (by omega)) (to_ f) z (by omega)
  refine Or.inr ⟨e, f, hok, rfl, _, _, _, _, _, _, _, _, _, _, _, _, _, _, _, _, _, _, _, _, _, rfl, ?_, sg_upd (sg_upd hS _) _, sg_add (sg_add hG (by decide)) (by decide), hPR, hPS, hPG⟩
  exact rowOK_ad (l0 := el e) (l1 := el f) (l2 := u) (l3 := w) (rowOK_ad (l0 := u) (l1 := z) (l2 := v) (l3 := w) hR2 (by omega) (by omega) (by omega) (by omega) (by omega)) (by omega) (by omega) (by omega) (by omega) (by omega)
set_option maxHeartbeats 4000000 in
theorem m_Mod_push_101 (hM : Mdl k plab T n lab S0 ci h) (hE : Ed n lab S0 el fr to_ at_) (hP : PcE (2 * n) n fr to_ oc) (x y : Int32) (u v w z : Nat) (hu : u = fN el 0 (2 * n)) (hv : v = fN el u (2 * n)) (hw : w = fN el v (2 * n)) (hzz : z = fN el w (2 * n)) : zMet y_Mod_push b_Mod_push 11 (some .boolean) ⟨7, 0, 0, 200⟩ [.ref 0, .int x, .int (bI true), .int y, .int (bI false), .int (bI true)] h
    (fun r h' => (r = some (.int (nI 0)) ∧ Mdl k plab T n lab S0 ci h' ∧ ∀ e f, ¬ PushOK n el fr to_ at_ oc x y true false e f) ∨ (∃ e f, PushOK n el fr to_ at_ oc x y true false e f ∧ r = some (.int (nI 1)) ∧ Mdl k plab T (n + 1 + 1) (phL true false true (va_up (va_up lab (to_ e) v) (to_ f) z) n (el e) u v (el f) w z) (upd (upd S0 n (phS true false true)) (n + 1) (-(phS true false true))) ci h')) := by
  have hM0 := hM
  obtain ⟨wrong, pS, pL, oN, oC, S, L, oS, oL, labs, row, fresh, piece, closed, faces, comp, fof, sides, side, free, arnd, rfl, hR, hS, hG, hPR, hPS, hPG⟩ := hM
  have hn := hR.1
  have hE' := ed_same hE (fun _ _ => rfl) hS
  have hG' := sg_same hG hS
  have bu := fN_le el 0 (2 * n)
  have bv := fN_le el u (2 * n)
  have bw := fN_le el v (2 * n)
  have bz := fN_le el w (2 * n)
  rw [← hu] at bu
  rw [← hv] at bv
  rw [← hw] at bw
  rw [← hzz] at bz
  refine zMet_of (plainFor_of_name (by decide +kernel)) rfl (Nat.le_of_ble_eq_true rfl) (fun z1 z2 z3 z4 z5 z6 z7 z8 z9 z10 z11 z12 z13 z14 O hin => ?_)
  refine zi_ls (ls' := [some (.ref 0), some (.int x), some (.int (bI true)), some (.int y), some (.int (bI false)), some (.int (bI true)), none, none, none, none, none]) rfl ?_
  have bad : (∀ e f, ¬ PushOK n el fr to_ at_ oc x y true false e f) → zG z1 z2 z3 z4 z5 z6 z7 z8 z9 z10 z11 z12 z13 z14 15 11 (fun r h' => (r = some (.int (nI 0)) ∧ Mdl k plab T n lab S0 ci h' ∧ ∀ e f, ¬ PushOK n el fr to_ at_ oc x y true false e f) ∨ (∃ e f, PushOK n el fr to_ at_ oc x y true false e f ∧ r = some (.int (nI 1)) ∧ Mdl k plab T (n + 1 + 1) (phL true false true (va_up (va_up lab (to_ e) v) (to_ f) z) n (el e) u v (el f) w z) (upd (upd S0 n (phS true false true)) (n + 1) (-(phS true false true))) ci h')) 0 0 0 0 35 [some (.ref 0), some (.int x), some (.int (bI true)), some (.int y), some (.int (bI false)), some (.int (bI true)), none, none, none, none, none] [] (mh k wrong pS pL n ci oN oC S L oS oL labs row fresh piece closed faces comp fof sides side free arnd) := by
    intro hno
    refine zi_iconstN O 0 d_Mod_push_35 (by decide) ?_
    refine zi_istore (ls' := _ :: _ :: _ :: _ :: _ :: _ :: some _ :: _) O d_Mod_push_36 rfl (by decide) rfl ?_
    refine zi_iload O d_Mod_push_38 rfl ?_
    refine zi_if_eq O 80 d_Mod_push_40 (by decide) (fun c40 => ?_) (fun c40 => ?_)
    · refine zi_iconstN O 0 d_Mod_push_80 (by decide) ?_
      refine zi_zret O d_Mod_push_81 rfl (Nat.le_of_ble_eq_true rfl) (Nat.le_of_ble_eq_true rfl) (Nat.le_of_ble_eq_true rfl) ?_
      exact Or.inl ⟨rfl, hM0, hno⟩
    · exact absurd rfl c40
  refine zi_iload_n O d_Mod_push_0 rfl ?_
  refine zi_if_le O 35 d_Mod_push_1 (by decide) (fun c1 => ?_) (fun c1 => ?_)
  · refine bad (fun e f q => ?_)
    have := el_ok hR hE q.1
    rw [q.2.2.1] at c1
    exact nI_nle (by omega) (by omega) c1
  obtain ⟨l, rfl, hl1, hl2⟩ := pos_nat c1
  refine zi_iload_n O d_Mod_push_4 rfl ?_
  refine zi_if_le O 35 d_Mod_push_5 (by decide) (fun c5 => ?_) (fun c5 => ?_)
  · refine bad (fun e f q => ?_)
    have := el_ok hR hE q.2.1
    rw [q.2.2.2.1] at c5
    exact nI_nle (by omega) (by omega) c5
  obtain ⟨m, rfl, hm1, hm2⟩ := pos_nat c5
  refine zi_iload_n O d_Mod_push_8 rfl ?_
  refine zi_iload_n O d_Mod_push_9 rfl ?_
  refine zi_icmp_eq O 35 d_Mod_push_10 (by decide) (fun c10 => ?_) (fun c10 => ?_)
  · refine bad (fun e f q => ?_)
    exact q.2.2.2.2.1 (el_uniq hR hE q.1 q.2.1 (by rw [← q.2.2.1, ← q.2.2.2.1]; exact c10))
  refine zi_aload_n O d_Mod_push_13 rfl ?_
  refine zi_iload_n O d_Mod_push_14 rfl ?_
  refine zi_iconstN O 1 d_Mod_push_15 (by decide) ?_
  refine zi_selfP O c_Mod_66 k_Mod_placeOf (m_Mod_placeOf lab hR hG' l 1 hl2) d_Mod_push_16 ⟨(Nat.le_of_ble_eq_true rfl), (Nat.le_of_ble_eq_true rfl)⟩ ⟨(Nat.le_of_ble_eq_true rfl), (Nat.le_of_ble_eq_true rfl)⟩ rfl rfl (Nat.le_of_ble_eq_true rfl) rfl rfl rfl (Nat.le_of_ble_eq_true rfl) rfl ?_
  by_cases c : ∃ e, e < 2 * n ∧ el e = l
  rotate_left
  · rw [plc_no hE' (fun e he z => c ⟨e, he, z⟩)]
    refine zi_if_lt O 35 d_Mod_push_19 (by decide) (fun c19 => ?_) (fun c19 => ?_)
    · refine bad (fun e f q => c ⟨e, q.1, ?_⟩)
      have := el_ok hR hE q.1
      exact ((nI_eq (by omega) (by omega)).mp q.2.2.1).symm
    · exact absurd (by decide) c19
  obtain ⟨e, he, rfl⟩ := c
  obtain ⟨f1, f2, f3, f4, f5, f6⟩ := hE.1 e he
  rw [plc_fr hE' he]
  refine zi_if_lt O 35 d_Mod_push_19 (by decide) (fun c19 => ?_) (fun c19 => ?_)
  · exact absurd c19 (nI_pos (by omega))
  refine zi_aload_n O d_Mod_push_22 rfl ?_
  refine zi_iload_n O d_Mod_push_23 rfl ?_
  refine zi_iconstN O 1 d_Mod_push_24 (by decide) ?_
  refine zi_selfP O c_Mod_66 k_Mod_placeOf (m_Mod_placeOf lab hR hG' m 1 hm2) d_Mod_push_25 ⟨(Nat.le_of_ble_eq_true rfl), (Nat.le_of_ble_eq_true rfl)⟩ ⟨(Nat.le_of_ble_eq_true rfl), (Nat.le_of_ble_eq_true rfl)⟩ rfl rfl (Nat.le_of_ble_eq_true rfl) rfl rfl rfl (Nat.le_of_ble_eq_true rfl) rfl ?_
  by_cases c : ∃ e, e < 2 * n ∧ el e = m
  rotate_left
  · rw [plc_no hE' (fun e he z => c ⟨e, he, z⟩)]
    refine zi_if_lt O 35 d_Mod_push_28 (by decide) (fun c28 => ?_) (fun c28 => ?_)
    · refine bad (fun e f q => c ⟨f, q.2.1, ?_⟩)
      have := el_ok hR hE q.2.1
      exact ((nI_eq (by omega) (by omega)).mp q.2.2.2.1).symm
    · exact absurd (by decide) c28
  obtain ⟨f, hf, rfl⟩ := c
  obtain ⟨g1, g2, g3, g4, g5, g6⟩ := hE.1 f hf
  rw [plc_fr hE' hf]
  refine zi_if_lt O 35 d_Mod_push_28 (by decide) (fun c28 => ?_) (fun c28 => ?_)
  · exact absurd c28 (nI_pos (by omega))
  have hef : e ≠ f := fun q => c10 (by rw [q])
  have only : ∀ e' f', PushOK n el fr to_ at_ oc (nI (el e)) (nI (el f)) true false e' f' → e' = e ∧ f' = f := fun e' f' q => ⟨(el_uniq hR hE he q.1 q.2.2.1).symm, (el_uniq hR hE hf q.2.1 q.2.2.2.1).symm⟩
  refine zi_iconstN O 1 d_Mod_push_31 (by decide) ?_
  refine zi_goto O 36 d_Mod_push_32 (by decide) ?_
  refine zi_istore (ls' := _ :: _ :: _ :: _ :: _ :: _ :: some _ :: _) O d_Mod_push_36 rfl (by decide) rfl ?_
  refine zi_iload O d_Mod_push_38 rfl ?_
  refine zi_if_eq O 80 d_Mod_push_40 (by decide) (fun c40 => ?_) (fun c40 => ?_)
  · exact absurd c40 (by decide)
  refine zi_aload_n O d_Mod_push_43 rfl ?_
  refine zi_get O f_Mod_59 d_Mod_push_44 rfl rfl ?_
  refine zi_bipushN O 18 d_Mod_push_47 (by decide) ?_
  refine zi_icmp_gtN O 80 d_Mod_push_49 (by decide) (by omega) (by omega) (fun c49 => ?_) (fun c49 => ?_)
  · refine zi_iconstN O 0 d_Mod_push_80 (by decide) ?_
    refine zi_zret O d_Mod_push_81 rfl (Nat.le_of_ble_eq_true rfl) (Nat.le_of_ble_eq_true rfl) (Nat.le_of_ble_eq_true rfl) ?_
    exact Or.inl ⟨rfl, hM0, fun e f q => by have := q.2.2.2.2.2.1; omega⟩
  refine zi_aload_n O d_Mod_push_52 rfl ?_
  refine zi_iload_n O d_Mod_push_53 rfl ?_
  refine zi_iload_n O d_Mod_push_54 rfl ?_
  refine zi_if_eq O 62 d_Mod_push_55 (by decide) (fun c55 => ?_) (fun c55 => ?_)
  · exact absurd c55 (by decide)
  refine zi_iconstN O 1 d_Mod_push_58 (by decide) ?_
  refine zi_goto O 63 d_Mod_push_59 (by decide) ?_
  refine zi_iload_n O d_Mod_push_63 rfl ?_
  refine zi_iload O d_Mod_push_64 rfl ?_
  refine zi_if_eq O 73 d_Mod_push_66 (by decide) (fun c66 => ?_) (fun c66 => ?_)
  rotate_left
  · exact absurd rfl c66
  refine zi_iconstN O 0 d_Mod_push_73 (by decide) ?_
  refine zi_selfV O c_Mod_190 k_Mod_areOne (m_Mod_areOne hR hG' hE' hP e f 1 0 he hf (by decide) (by decide)) d_Mod_push_74 ⟨(Nat.le_of_ble_eq_true rfl), (Nat.le_of_ble_eq_true rfl)⟩ ⟨(Nat.le_of_ble_eq_true rfl), (Nat.le_of_ble_eq_true rfl)⟩ rfl rfl (Nat.le_of_ble_eq_true rfl) rfl rfl rfl (Nat.le_of_ble_eq_true rfl) rfl (fun r h' hq hl => ?_)
  obtain ⟨hq, row', fof', piece', rfl⟩ := hq
  rcases hq with ⟨rfl, hmt⟩ | ⟨rfl, hmt⟩
  rotate_left
  · refine zi_st (st' := [.int (nI 0)]) rfl ?_
    refine zi_if_ne O 82 d_Mod_push_77 (by decide) (fun c77 => ?_) (fun c77 => ?_)
    · exact absurd rfl c77
    · refine zi_iconstN O 0 d_Mod_push_80 (by decide) ?_
      refine zi_zret O d_Mod_push_81 rfl (Nat.le_of_ble_eq_true rfl) (Nat.le_of_ble_eq_true rfl) (Nat.le_of_ble_eq_true rfl) ?_
      refine Or.inl ⟨rfl, ⟨_, _, _, _, _, _, _, _, _, _, _, _, _, _, _, _, _, _, _, _, _, rfl, hR, hS, hG, hPR, hPS, hPG⟩, fun e' f' q => ?_⟩
      obtain ⟨rfl, rfl⟩ := only e' f' q
      exact hmt q.2.2.2.2.2.2
  refine zi_st (st' := [.int (nI 1)]) rfl ?_
  refine zi_if_ne O 82 d_Mod_push_77 (by decide) (fun c77 => ?_) (fun c77 => ?_)
  rotate_left
  · exact absurd c77 (by decide)
  have hok : PushOK n el fr to_ at_ oc (nI (el e)) (nI (el f)) true false e f := ⟨he, hf, rfl, rfl, hef, by omega, hmt⟩
  refine zi_aload_n O d_Mod_push_82 rfl ?_
  refine zi_selfV O c_Mod_136 k_Mod_findFree (m_Mod_findFree hR hE') d_Mod_push_83 ⟨(Nat.le_of_ble_eq_true rfl), (Nat.le_of_ble_eq_true rfl)⟩ ⟨(Nat.le_of_ble_eq_true rfl), (Nat.le_of_ble_eq_true rfl)⟩ rfl rfl (Nat.le_of_ble_eq_true rfl) rfl rfl rfl (Nat.le_of_ble_eq_true rfl) rfl (fun r h' hq hl => ?_)
  obtain ⟨rfl, row'', free', rfl, -, hfr⟩ := hq
  refine zi_st (st' := []) rfl ?_
  have e0 : free' 0 = nI u := by rw [hfr 0 (by decide), hu]; rfl
  have e1 : free' 1 = nI v := by rw [hfr 1 (by decide), hv, hu]; rfl
  have e2 : free' 2 = nI w := by rw [hfr 2 (by decide), hw, hv, hu]; rfl
  have e3 : free' 3 = nI z := by rw [hfr 3 (by decide), hzz, hw, hv, hu]; rfl
  have be := el_ok hR hE he
  have bf := el_ok hR hE hf
  refine zi_aload_n O d_Mod_push_86 rfl ?_
  refine zi_iload_n O d_Mod_push_87 rfl ?_
  refine zi_iconstN O 0 d_Mod_push_88 (by decide) ?_
  refine zi_selfP O c_Mod_66 k_Mod_placeOf (m_Mod_to hR hG' hE' he) d_Mod_push_89 ⟨(Nat.le_of_ble_eq_true rfl), (Nat.le_of_ble_eq_true rfl)⟩ ⟨(Nat.le_of_ble_eq_true rfl), (Nat.le_of_ble_eq_true rfl)⟩ rfl rfl (Nat.le_of_ble_eq_true rfl) rfl rfl rfl (Nat.le_of_ble_eq_true rfl) rfl ?_
  refine zi_istore (ls' := _ :: _ :: _ :: _ :: _ :: _ :: _ :: some _ :: _) O d_Mod_push_92 rfl (by decide) rfl ?_
  refine zi_aload_n O d_Mod_push_94 rfl ?_
  refine zi_iload_n O d_Mod_push_95 rfl ?_
  refine zi_iconstN O 0 d_Mod_push_96 (by decide) ?_
  refine zi_selfP O c_Mod_66 k_Mod_placeOf (m_Mod_to hR hG' hE' hf) d_Mod_push_97 ⟨(Nat.le_of_ble_eq_true rfl), (Nat.le_of_ble_eq_true rfl)⟩ ⟨(Nat.le_of_ble_eq_true rfl), (Nat.le_of_ble_eq_true rfl)⟩ rfl rfl (Nat.le_of_ble_eq_true rfl) rfl rfl rfl (Nat.le_of_ble_eq_true rfl) rfl ?_
  refine zi_istore (ls' := _ :: _ :: _ :: _ :: _ :: _ :: _ :: _ :: some _ :: _) O d_Mod_push_100 rfl (by decide) rfl ?_
  refine zi_aload_n O d_Mod_push_102 rfl ?_
  refine zi_get O f_Mod_23 d_Mod_push_103 rfl rfl ?_
  refine zi_iload O d_Mod_push_106 rfl ?_
  refine zi_aload_n O d_Mod_push_108 rfl ?_
  refine zi_get O f_Mod_50 d_Mod_push_109 rfl rfl ?_
  refine zi_iconstN O 1 d_Mod_push_112 (by decide) ?_
  refine zi_iald O d_Mod_push_113 rfl rfl (by omega) (Nat.le_of_ble_eq_true rfl) ?_
  rw [e1]
  refine zi_iast O d_Mod_push_114 rfl rfl (by omega) (Nat.le_of_ble_eq_true rfl) (by dsimp only [List.set]) ?_
  refine zi_aload_n O d_Mod_push_115 rfl ?_
  refine zi_get O f_Mod_23 d_Mod_push_116 rfl rfl ?_
  refine zi_iload O d_Mod_push_119 rfl ?_
  refine zi_aload_n O d_Mod_push_121 rfl ?_
  refine zi_get O f_Mod_50 d_Mod_push_122 rfl rfl ?_
  refine zi_iconstN O 3 d_Mod_push_125 (by decide) ?_
  refine zi_iald O d_Mod_push_126 rfl rfl (by omega) (Nat.le_of_ble_eq_true rfl) ?_
  rw [e3]
  refine zi_iast O d_Mod_push_127 rfl rfl (by omega) (Nat.le_of_ble_eq_true rfl) (by dsimp only [List.set]) ?_
  refine zi_aload_n O d_Mod_push_128 rfl ?_
  refine zi_get O f_Mod_53 d_Mod_push_129 rfl rfl ?_
  refine zi_iconstN O 0 d_Mod_push_132 (by decide) ?_
  refine zi_aload_n O d_Mod_push_133 rfl ?_
  refine zi_get O f_Mod_50 d_Mod_push_134 rfl rfl ?_
  refine zi_iconstN O 2 d_Mod_push_137 (by decide) ?_
  refine zi_iald O d_Mod_push_138 rfl rfl (by omega) (Nat.le_of_ble_eq_true rfl) ?_
  rw [e2]
  refine zi_iast O d_Mod_push_139 rfl rfl (by omega) (Nat.le_of_ble_eq_true rfl) (by dsimp only [List.set]) ?_
  refine zi_aload_n O d_Mod_push_140 rfl ?_
  refine zi_get O f_Mod_53 d_Mod_push_141 rfl rfl ?_
  refine zi_iconstN O 1 d_Mod_push_144 (by decide) ?_
  refine zi_aload_n O d_Mod_push_145 rfl ?_
  refine zi_get O f_Mod_50 d_Mod_push_146 rfl rfl ?_
  refine zi_iconstN O 0 d_Mod_push_149 (by decide) ?_
  refine zi_iald O d_Mod_push_150 rfl rfl (by omega) (Nat.le_of_ble_eq_true rfl) ?_
  rw [e0]
  refine zi_iast O d_Mod_push_151 rfl rfl (by omega) (Nat.le_of_ble_eq_true rfl) (by dsimp only [List.set]) ?_
  refine zi_aload_n O d_Mod_push_152 rfl ?_
  refine zi_get O f_Mod_53 d_Mod_push_153 rfl rfl ?_
  refine zi_iconstN O 2 d_Mod_push_156 (by decide) ?_
  refine zi_iload O d_Mod_push_157 rfl ?_
  refine zi_if_eq O 166 d_Mod_push_159 (by decide) (fun c159 => ?_) (fun c159 => ?_)
  rotate_left
  · exact absurd rfl c159
  refine zi_aload_n O d_Mod_push_166 rfl ?_
  refine zi_get O f_Mod_50 d_Mod_push_167 rfl rfl ?_
  refine zi_iconstN O 3 d_Mod_push_170 (by decide) ?_
  refine zi_iald O d_Mod_push_171 rfl rfl (by omega) (Nat.le_of_ble_eq_true rfl) ?_
  rw [e3]
  refine zi_iast O d_Mod_push_172 rfl rfl (by omega) (Nat.le_of_ble_eq_true rfl) (by dsimp only [List.set]) ?_
  refine zi_aload_n O d_Mod_push_173 rfl ?_
  refine zi_get O f_Mod_53 d_Mod_push_174 rfl rfl ?_
  refine zi_iconstN O 3 d_Mod_push_177 (by decide) ?_
  refine zi_iload_n O d_Mod_push_178 rfl ?_
  refine zi_if_eq O 191 d_Mod_push_179 (by decide) (fun c179 => ?_) (fun c179 => ?_)
  · exact absurd c179 (by decide)
  refine zi_aload_n O d_Mod_push_182 rfl ?_
  refine zi_get O f_Mod_50 d_Mod_push_183 rfl rfl ?_
  refine zi_iconstN O 1 d_Mod_push_186 (by decide) ?_
  refine zi_iald O d_Mod_push_187 rfl rfl (by omega) (Nat.le_of_ble_eq_true rfl) ?_
  rw [e1]
  refine zi_goto O 192 d_Mod_push_188 (by decide) ?_
  refine zi_iast O d_Mod_push_192 rfl rfl (by omega) (Nat.le_of_ble_eq_true rfl) (by dsimp only [List.set]) ?_
  refine zi_iload_n O d_Mod_push_193 rfl ?_
  refine zi_if_eq O 201 d_Mod_push_194 (by decide) (fun c194 => ?_) (fun c194 => ?_)
  · exact absurd c194 (by decide)
  refine zi_iconstN O 1 d_Mod_push_197 (by decide) ?_
  refine zi_goto O 202 d_Mod_push_198 (by decide) ?_
  refine zi_istore (ls' := _ :: _ :: _ :: _ :: _ :: _ :: _ :: _ :: _ :: some _ :: _) O d_Mod_push_202 rfl (by decide) rfl ?_
  refine zi_iload O d_Mod_push_204 rfl ?_
  refine zi_if_eq O 213 d_Mod_push_206 (by decide) (fun c206 => ?_) (fun c206 => ?_)
  rotate_left
  · exact absurd rfl c206
  refine zi_iconstN O 0 d_Mod_push_213 (by decide) ?_
  refine zi_istore (ls' := _ :: _ :: _ :: _ :: _ :: _ :: _ :: _ :: _ :: _ :: some _ :: _) O d_Mod_push_214 rfl (by decide) rfl ?_
  refine zi_aload_n O d_Mod_push_216 rfl ?_
  refine zi_iload O d_Mod_push_217 rfl ?_
  refine zi_if_eq O 227 d_Mod_push_219 (by decide) (fun c219 => ?_) (fun c219 => ?_)
  · exact absurd c219 (by decide)
  refine zi_iload O d_Mod_push_222 rfl ?_
  refine zi_goto O 229 d_Mod_push_224 (by decide) ?_
  refine zi_iload O d_Mod_push_229 rfl ?_
  refine zi_if_eq O 239 d_Mod_push_231 (by decide) (fun c231 => ?_) (fun c231 => ?_)
  · exact absurd c231 (by decide)
  refine zi_iload O d_Mod_push_234 rfl ?_
  refine zi_goto O 241 d_Mod_push_236 (by decide) ?_
  refine zi_selfV O c_Mod_194 k_Mod_cross (m_Mod_cross (by omega) 0 1 (by decide) (by decide)) d_Mod_push_241 ⟨(Nat.le_of_ble_eq_true rfl), (Nat.le_of_ble_eq_true rfl)⟩ ⟨(Nat.le_of_ble_eq_true rfl), (Nat.le_of_ble_eq_true rfl)⟩ rfl rfl (Nat.le_of_ble_eq_true rfl) rfl rfl rfl (Nat.le_of_ble_eq_true rfl) rfl (fun r h' hq hl => ?_)
  obtain ⟨rfl, rfl⟩ := hq
  refine zi_st (st' := []) rfl ?_
  refine zi_aload_n O d_Mod_push_244 rfl ?_
  refine zi_get O f_Mod_53 d_Mod_push_245 rfl rfl ?_
  refine zi_iconstN O 0 d_Mod_push_248 (by decide) ?_
  refine zi_aload_n O d_Mod_push_249 rfl ?_
  refine zi_get O f_Mod_50 d_Mod_push_250 rfl rfl ?_
  refine zi_iconstN O 2 d_Mod_push_253 (by decide) ?_
  refine zi_iald O d_Mod_push_254 rfl rfl (by omega) (Nat.le_of_ble_eq_true rfl) ?_
  rw [e2]
  refine zi_iast O d_Mod_push_255 rfl rfl (by omega) (Nat.le_of_ble_eq_true rfl) (by dsimp only [List.set]) ?_
  refine zi_aload_n O d_Mod_push_256 rfl ?_
  refine zi_get O f_Mod_53 d_Mod_push_257 rfl rfl ?_
  refine zi_iconstN O 1 d_Mod_push_260 (by decide) ?_
  refine zi_iload_n O d_Mod_push_261 rfl ?_
  refine zi_if_eq O 269 d_Mod_push_262 (by decide) (fun c262 => ?_) (fun c262 => ?_)
  · exact absurd c262 (by decide)
  refine zi_iload_n O d_Mod_push_265 rfl ?_
  refine zi_goto O 275 d_Mod_push_266 (by decide) ?_
  refine zi_iast O d_Mod_push_275 rfl rfl (by omega) (Nat.le_of_ble_eq_true rfl) (by dsimp only [List.set]) ?_
  refine zi_aload_n O d_Mod_push_276 rfl ?_
  refine zi_get O f_Mod_53 d_Mod_push_277 rfl rfl ?_
  refine zi_iconstN O 2 d_Mod_push_280 (by decide) ?_
  refine zi_iload O d_Mod_push_281 rfl ?_
  refine zi_if_eq O 295 d_Mod_push_283 (by decide) (fun c283 => ?_) (fun c283 => ?_)
  rotate_left
  · exact absurd rfl c283
  refine zi_iload_n O d_Mod_push_295 rfl ?_
  refine zi_iast O d_Mod_push_296 rfl rfl (by omega) (Nat.le_of_ble_eq_true rfl) (by dsimp only [List.set]) ?_
  refine zi_aload_n O d_Mod_push_297 rfl ?_
  refine zi_get O f_Mod_53 d_Mod_push_298 rfl rfl ?_
  refine zi_iconstN O 3 d_Mod_push_301 (by decide) ?_
  refine zi_aload_n O d_Mod_push_302 rfl ?_
  refine zi_get O f_Mod_50 d_Mod_push_303 rfl rfl ?_
  refine zi_iconstN O 0 d_Mod_push_306 (by decide) ?_
  refine zi_iald O d_Mod_push_307 rfl rfl (by omega) (Nat.le_of_ble_eq_true rfl) ?_
  rw [e0]
  refine zi_iast O d_Mod_push_308 rfl rfl (by omega) (Nat.le_of_ble_eq_true rfl) (by dsimp only [List.set]) ?_
  refine zi_iload O d_Mod_push_309 rfl ?_
  refine zi_if_eq O 318 d_Mod_push_311 (by decide) (fun c311 => ?_) (fun c311 => ?_)
  rotate_left
  · exact absurd rfl c311
  refine zi_iconstN O 2 d_Mod_push_318 (by decide) ?_
  refine zi_istore (ls' := _ :: _ :: _ :: _ :: _ :: _ :: _ :: _ :: _ :: _ :: some _ :: _) O d_Mod_push_319 rfl (by decide) rfl ?_
  refine zi_aload_n O d_Mod_push_321 rfl ?_
  refine zi_iload O d_Mod_push_322 rfl ?_
  refine zi_if_eq O 332 d_Mod_push_324 (by decide) (fun c324 => ?_) (fun c324 => ?_)
  · exact absurd c324 (by decide)
  refine zi_iload O d_Mod_push_327 rfl ?_
  refine zi_goto O 334 d_Mod_push_329 (by decide) ?_
  refine zi_iload O d_Mod_push_334 rfl ?_
  refine zi_if_eq O 344 d_Mod_push_336 (by decide) (fun c336 => ?_) (fun c336 => ?_)
  · exact absurd c336 (by decide)
  refine zi_iload O d_Mod_push_339 rfl ?_
  refine zi_goto O 346 d_Mod_push_341 (by decide) ?_
  refine zi_selfV O c_Mod_194 k_Mod_cross (m_Mod_cross (by omega) 2 1 (by decide) (by decide)) d_Mod_push_346 ⟨(Nat.le_of_ble_eq_true rfl), (Nat.le_of_ble_eq_true rfl)⟩ ⟨(Nat.le_of_ble_eq_true rfl), (Nat.le_of_ble_eq_true rfl)⟩ rfl rfl (Nat.le_of_ble_eq_true rfl) rfl rfl rfl (Nat.le_of_ble_eq_true rfl) rfl (fun r h' hq hl => ?_)
  obtain ⟨rfl, rfl⟩ := hq
  refine zi_st (st' := []) rfl ?_
  refine zi_iconstN O 1 d_Mod_push_349 (by decide) ?_
  refine zi_zret O d_Mod_push_350 rfl (Nat.le_of_ble_eq_true rfl) (Nat.le_of_ble_eq_true rfl) (Nat.le_of_ble_eq_true rfl) ?_
  have hR2 := rowOK_up (rowOK_up hR (to_ e) v (by omega)) (to_ f) z (by omega)
  refine Or.inr ⟨e, f, hok, rfl, _, _, _, _, _, _, _, _, _, _, _, _, _, _, _, _, _, _, _, _, _, rfl, ?_, sg_upd (sg_upd hS _) _, sg_add (sg_add hG (by decide)) (by decide), hPR, hPS, hPG⟩
  exact rowOK_ad (l0 := el f) (l1 := u) (l2 := w) (l3 := el e) (rowOK_ad (l0 := w) (l1 := u) (l2 := z) (l3 := v) hR2 (by omega) (by omega) (by omega) (by omega) (by omega)) (by omega) (by omega) (by omega) (by omega) (by omega)
set_option maxHeartbeats 4000000 in
theorem m_Mod_push_110 (hM : Mdl k plab T n lab S0 ci h) (hE : Ed n lab S0 el fr to_ at_) (hP : PcE (2 * n) n fr to_ oc) (x y : Int32) (u v w z : Nat) (hu : u = fN el 0 (2 * n)) (hv : v = fN el u (2 * n)) (hw : w = fN el v (2 * n)) (hzz : z = fN el w (2 * n)) : zMet y_Mod_push b_Mod_push 11 (some .boolean) ⟨7, 0, 0, 200⟩ [.ref 0, .int x, .int (bI true), .int y, .int (bI true), .int (bI false)] h
    (fun r h' => (r = some (.int (nI 0)) ∧ Mdl k plab T n lab S0 ci h' ∧ ∀ e f, ¬ PushOK n el fr to_ at_ oc x y true true e f) ∨ (∃ e f, PushOK n el fr to_ at_ oc x y true true e f ∧ r = some (.int (nI 1)) ∧ Mdl k plab T (n + 1 + 1) (phL false false false (va_up (va_up lab (to_ e) v) (to_ f) z) n (el e) u v (el f) w z) (upd (upd S0 n (phS false false false)) (n + 1) (-(phS false false false))) ci h')) := by
  have hM0 := hM
  obtain ⟨wrong, pS, pL, oN, oC, S, L, oS, oL, labs, row, fresh, piece, closed, faces, comp, fof, sides, side, free, arnd, rfl, hR, hS, hG, hPR, hPS, hPG⟩ := hM
  have hn := hR.1
  have hE' := ed_same hE (fun _ _ => rfl) hS
  have hG' := sg_same hG hS
  have bu := fN_le el 0 (2 * n)
  have bv := fN_le el u (2 * n)
  have bw := fN_le el v (2 * n)
  have bz := fN_le el w (2 * n)
  rw [← hu] at bu
  rw [← hv] at bv
  rw [← hw] at bw
  rw [← hzz] at bz
  refine zMet_of (plainFor_of_name (by decide +kernel)) rfl (Nat.le_of_ble_eq_true rfl) (fun z1 z2 z3 z4 z5 z6 z7 z8 z9 z10 z11 z12 z13 z14 O hin => ?_)
  refine zi_ls (ls' := [some (.ref 0), some (.int x), some (.int (bI true)), some (.int y), some (.int (bI true)), some (.int (bI false)), none, none, none, none, none]) rfl ?_
  have bad : (∀ e f, ¬ PushOK n el fr to_ at_ oc x y true true e f) → zG z1 z2 z3 z4 z5 z6 z7 z8 z9 z10 z11 z12 z13 z14 15 11 (fun r h' => (r = some (.int (nI 0)) ∧ Mdl k plab T n lab S0 ci h' ∧ ∀ e f, ¬ PushOK n el fr to_ at_ oc x y true true e f) ∨ (∃ e f, PushOK n el fr to_ at_ oc x y true true e f ∧ r = some (.int (nI 1)) ∧ Mdl k plab T (n + 1 + 1) (phL false false false (va_up (va_up lab (to_ e) v) (to_ f) z) n (el e) u v (el f) w z) (upd (upd S0 n (phS false false false)) (n + 1) (-(phS false false false))) ci h')) 0 0 0 0 35 [some (.ref 0), some (.int x), some (.int (bI true)), some (.int y), some (.int (bI true)), some (.int (bI false)), none, none, none, none, none] [] (mh k wrong pS pL n ci oN oC S L oS oL labs row fresh piece closed faces comp fof sides side free arnd) := by
    intro hno
    refine zi_iconstN O 0 d_Mod_push_35 (by decide) ?_
    refine zi_istore (ls' := _ :: _ :: _ :: _ :: _ :: _ :: some _ :: _) O d_Mod_push_36 rfl (by decide) rfl ?_
    refine zi_iload O d_Mod_push_38 rfl ?_
    refine zi_if_eq O 80 d_Mod_push_40 (by decide) (fun c40 => ?_) (fun c40 => ?_)
    · refine zi_iconstN O 0 d_Mod_push_80 (by decide) ?_
      refine zi_zret O d_Mod_push_81 rfl (Nat.le_of_ble_eq_true rfl) (Nat.le_of_ble_eq_true rfl) (Nat.le_of_ble_eq_true rfl) ?_
      exact Or.inl ⟨rfl, hM0, hno⟩
    · exact absurd rfl c40
  refine zi_iload_n O d_Mod_push_0 rfl ?_
  refine zi_if_le O 35 d_Mod_push_1 (by decide) (fun c1 => ?_) (fun c1 => ?_)
  · refine bad (fun e f q => ?_)
    have := el_ok hR hE q.1
    rw [q.2.2.1] at c1
    exact nI_nle (by omega) (by omega) c1
  obtain ⟨l, rfl, hl1, hl2⟩ := pos_nat c1
  refine zi_iload_n O d_Mod_push_4 rfl ?_
  refine zi_if_le O 35 d_Mod_push_5 (by decide) (fun c5 => ?_) (fun c5 => ?_)
  · refine bad (fun e f q => ?_)
    have := el_ok hR hE q.2.1
    rw [q.2.2.2.1] at c5
    exact nI_nle (by omega) (by omega) c5
  obtain ⟨m, rfl, hm1, hm2⟩ := pos_nat c5
  refine zi_iload_n O d_Mod_push_8 rfl ?_
  refine zi_iload_n O d_Mod_push_9 rfl ?_
  refine zi_icmp_eq O 35 d_Mod_push_10 (by decide) (fun c10 => ?_) (fun c10 => ?_)
  · refine bad (fun e f q => ?_)
    exact q.2.2.2.2.1 (el_uniq hR hE q.1 q.2.1 (by rw [← q.2.2.1, ← q.2.2.2.1]; exact c10))
  refine zi_aload_n O d_Mod_push_13 rfl ?_
  refine zi_iload_n O d_Mod_push_14 rfl ?_
  refine zi_iconstN O 1 d_Mod_push_15 (by decide) ?_
  refine zi_selfP O c_Mod_66 k_Mod_placeOf (m_Mod_placeOf lab hR hG' l 1 hl2) d_Mod_push_16 ⟨(Nat.le_of_ble_eq_true rfl), (Nat.le_of_ble_eq_true rfl)⟩ ⟨(Nat.le_of_ble_eq_true rfl), (Nat.le_of_ble_eq_true rfl)⟩ rfl rfl (Nat.le_of_ble_eq_true rfl) rfl rfl rfl (Nat.le_of_ble_eq_true rfl) rfl ?_
  by_cases c : ∃ e, e < 2 * n ∧ el e = l
  rotate_left
  · rw [plc_no hE' (fun e he z => c ⟨e, he, z⟩)]
    refine zi_if_lt O 35 d_Mod_push_19 (by decide) (fun c19 => ?_) (fun c19 => ?_)
    · refine bad (fun e f q => c ⟨e, q.1, ?_⟩)
      have := el_ok hR hE q.1
      exact ((nI_eq (by omega) (by omega)).mp q.2.2.1).symm
    · exact absurd (by decide) c19
  obtain ⟨e, he, rfl⟩ := c
  obtain ⟨f1, f2, f3, f4, f5, f6⟩ := hE.1 e he
  rw [plc_fr hE' he]
  refine zi_if_lt O 35 d_Mod_push_19 (by decide) (fun c19 => ?_) (fun c19 => ?_)
  · exact absurd c19 (nI_pos (by omega))
  refine zi_aload_n O d_Mod_push_22 rfl ?_
  refine zi_iload_n O d_Mod_push_23 rfl ?_
  refine zi_iconstN O 1 d_Mod_push_24 (by decide) ?_
  refine zi_selfP O c_Mod_66 k_Mod_placeOf (m_Mod_placeOf lab hR hG' m 1 hm2) d_Mod_push_25 ⟨(Nat.le_of_ble_eq_true rfl), (Nat.le_of_ble_eq_true rfl)⟩ ⟨(Nat.le_of_ble_eq_true rfl), (Nat.le_of_ble_eq_true rfl)⟩ rfl rfl (Nat.le_of_ble_eq_true rfl) rfl rfl rfl (Nat.le_of_ble_eq_true rfl) rfl ?_
  by_cases c : ∃ e, e < 2 * n ∧ el e = m
  rotate_left
  · rw [plc_no hE' (fun e he z => c ⟨e, he, z⟩)]
    refine zi_if_lt O 35 d_Mod_push_28 (by decide) (fun c28 => ?_) (fun c28 => ?_)
    · refine bad (fun e f q => c ⟨f, q.2.1, ?_⟩)
      have := el_ok hR hE q.2.1
      exact ((nI_eq (by omega) (by omega)).mp q.2.2.2.1).symm
    · exact absurd (by decide) c28
  obtain ⟨f, hf, rfl⟩ := c
  obtain ⟨g1, g2, g3, g4, g5, g6⟩ := hE.1 f hf
  rw [plc_fr hE' hf]
  refine zi_if_lt O 35 d_Mod_push_28 (by decide) (fun c28 => ?_) (fun c28 => ?_)
  · exact absurd c28 (nI_pos (by omega))
  have hef : e ≠ f := fun q => c10 (by rw [q])
  have only : ∀ e' f', PushOK n el fr to_ at_ oc (nI (el e)) (nI (el f)) true true e' f' → e' = e ∧ f' = f := fun e' f' q => ⟨(el_uniq hR hE he q.1 q.2.2.1).symm, (el_uniq hR hE hf q.2.1 q.2.2.2.1).symm⟩
  refine zi_iconstN O 1 d_Mod_push_31 (by decide) ?_
  refine zi_goto O 36 d_Mod_push_32 (by decide) ?_
  refine zi_istore (ls' := _ :: _ :: _ :: _ :: _ :: _ :: some _ :: _) O d_Mod_push_36 rfl (by decide) rfl ?_
  refine zi_iload O d_Mod_push_38 rfl ?_
  refine zi_if_eq O 80 d_Mod_push_40 (by decide) (fun c40 => ?_) (fun c40 => ?_)
  · exact absurd c40 (by decide)
  refine zi_aload_n O d_Mod_push_43 rfl ?_
  refine zi_get O f_Mod_59 d_Mod_push_44 rfl rfl ?_
  refine zi_bipushN O 18 d_Mod_push_47 (by decide) ?_
  refine zi_icmp_gtN O 80 d_Mod_push_49 (by decide) (by omega) (by omega) (fun c49 => ?_) (fun c49 => ?_)
  · refine zi_iconstN O 0 d_Mod_push_80 (by decide) ?_
    refine zi_zret O d_Mod_push_81 rfl (Nat.le_of_ble_eq_true rfl) (Nat.le_of_ble_eq_true rfl) (Nat.le_of_ble_eq_true rfl) ?_
    exact Or.inl ⟨rfl, hM0, fun e f q => by have := q.2.2.2.2.2.1; omega⟩
  refine zi_aload_n O d_Mod_push_52 rfl ?_
  refine zi_iload_n O d_Mod_push_53 rfl ?_
  refine zi_iload_n O d_Mod_push_54 rfl ?_
  refine zi_if_eq O 62 d_Mod_push_55 (by decide) (fun c55 => ?_) (fun c55 => ?_)
  · exact absurd c55 (by decide)
  refine zi_iconstN O 1 d_Mod_push_58 (by decide) ?_
  refine zi_goto O 63 d_Mod_push_59 (by decide) ?_
  refine zi_iload_n O d_Mod_push_63 rfl ?_
  refine zi_iload O d_Mod_push_64 rfl ?_
  refine zi_if_eq O 73 d_Mod_push_66 (by decide) (fun c66 => ?_) (fun c66 => ?_)
  · exact absurd c66 (by decide)
  refine zi_iconstN O 1 d_Mod_push_69 (by decide) ?_
  refine zi_goto O 74 d_Mod_push_70 (by decide) ?_
  refine zi_selfV O c_Mod_190 k_Mod_areOne (m_Mod_areOne hR hG' hE' hP e f 1 1 he hf (by decide) (by decide)) d_Mod_push_74 ⟨(Nat.le_of_ble_eq_true rfl), (Nat.le_of_ble_eq_true rfl)⟩ ⟨(Nat.le_of_ble_eq_true rfl), (Nat.le_of_ble_eq_true rfl)⟩ rfl rfl (Nat.le_of_ble_eq_true rfl) rfl rfl rfl (Nat.le_of_ble_eq_true rfl) rfl (fun r h' hq hl => ?_)
  obtain ⟨hq, row', fof', piece', rfl⟩ := hq
  rcases hq with ⟨rfl, hmt⟩ | ⟨rfl, hmt⟩
  rotate_left
  · refine zi_st (st' := [.int (nI 0)]) rfl ?_
    refine zi_if_ne O 82 d_Mod_push_77 (by decide) (fun c77 => ?_) (fun c77 => ?_)
    · exact absurd rfl c77
    · refine zi_iconstN O 0 d_Mod_push_80 (by decide) ?_
      refine zi_zret O d_Mod_push_81 rfl (Nat.le_of_ble_eq_true rfl) (Nat.le_of_ble_eq_true rfl) (Nat.le_of_ble_eq_true rfl) ?_
      refine Or.inl ⟨rfl, ⟨_, _, _, _, _, _, _, _, _, _, _, _, _, _, _, _, _, _, _, _, _, rfl, hR, hS, hG, hPR, hPS, hPG⟩, fun e' f' q => ?_⟩
      obtain ⟨rfl, rfl⟩ := only e' f' q
      exact hmt q.2.2.2.2.2.2
  refine zi_st (st' := [.int (nI 1)]) rfl ?_
  refine zi_if_ne O 82 d_Mod_push_77 (by decide) (fun c77 => ?_) (fun c77 => ?_)
  rotate_left
  · exact absurd c77 (by decide)
  have hok : PushOK n el fr to_ at_ oc (nI (el e)) (nI (el f)) true true e f := ⟨he, hf, rfl, rfl, hef, by omega, hmt⟩
  refine zi_aload_n O d_Mod_push_82 rfl ?_
  refine zi_selfV O c_Mod_136 k_Mod_findFree (m_Mod_findFree hR hE') d_Mod_push_83 ⟨(Nat.le_of_ble_eq_true rfl), (Nat.le_of_ble_eq_true rfl)⟩ ⟨(Nat.le_of_ble_eq_true rfl), (Nat.le_of_ble_eq_true rfl)⟩ rfl rfl (Nat.le_of_ble_eq_true rfl) rfl rfl rfl (Nat.le_of_ble_eq_true rfl) rfl (fun r h' hq hl => ?_)
  obtain ⟨rfl, row'', free', rfl, -, hfr⟩ := hq
  refine zi_st (st' := []) rfl ?_
  have e0 : free' 0 = nI u := by rw [hfr 0 (by decide), hu]; rfl
  have e1 : free' 1 = nI v := by rw [hfr 1 (by decide), hv, hu]; rfl
  have e2 : free' 2 = nI w := by rw [hfr 2 (by decide), hw, hv, hu]; rfl
  have e3 : free' 3 = nI z := by rw [hfr 3 (by decide), hzz, hw, hv, hu]; rfl
  have be := el_ok hR hE he
  have bf := el_ok hR hE hf
  refine zi_aload_n O d_Mod_push_86 rfl ?_
  refine zi_iload_n O d_Mod_push_87 rfl ?_
  refine zi_iconstN O 0 d_Mod_push_88 (by decide) ?_
  refine zi_selfP O c_Mod_66 k_Mod_placeOf (m_Mod_to hR hG' hE' he) d_Mod_push_89 ⟨(Nat.le_of_ble_eq_true rfl), (Nat.le_of_ble_eq_true rfl)⟩ ⟨(Nat.le_of_ble_eq_true rfl), (Nat.le_of_ble_eq_true rfl)⟩ rfl rfl (Nat.le_of_ble_eq_true rfl) rfl rfl rfl (Nat.le_of_ble_eq_true rfl) rfl ?_
  refine zi_istore (ls' := _ :: _ :: _ :: _ :: _ :: _ :: _ :: some _ :: _) O d_Mod_push_92 rfl (by decide) rfl ?_
  refine zi_aload_n O d_Mod_push_94 rfl ?_
  refine zi_iload_n O d_Mod_push_95 rfl ?_
  refine zi_iconstN O 0 d_Mod_push_96 (by decide) ?_
  refine zi_selfP O c_Mod_66 k_Mod_placeOf (m_Mod_to hR hG' hE' hf) d_Mod_push_97 ⟨(Nat.le_of_ble_eq_true rfl), (Nat.le_of_ble_eq_true rfl)⟩ ⟨(Nat.le_of_ble_eq_true rfl), (Nat.le_of_ble_eq_true rfl)⟩ rfl rfl (Nat.le_of_ble_eq_true rfl) rfl rfl rfl (Nat.le_of_ble_eq_true rfl) rfl ?_
  refine zi_istore (ls' := _ :: _ :: _ :: _ :: _ :: _ :: _ :: _ :: some _ :: _) O d_Mod_push_100 rfl (by decide) rfl ?_
  refine zi_aload_n O d_Mod_push_102 rfl ?_
  refine zi_get O f_Mod_23 d_Mod_push_103 rfl rfl ?_
  refine zi_iload O d_Mod_push_106 rfl ?_
  refine zi_aload_n O d_Mod_push_108 rfl ?_
  refine zi_get O f_Mod_50 d_Mod_push_109 rfl rfl ?_
  refine zi_iconstN O 1 d_Mod_push_112 (by decide) ?_
  refine zi_iald O d_Mod_push_113 rfl rfl (by omega) (Nat.le_of_ble_eq_true rfl) ?_
  rw [e1]
  refine zi_iast O d_Mod_push_114 rfl rfl (by omega) (Nat.le_of_ble_eq_true rfl) (by dsimp only [List.set]) ?_
  refine zi_aload_n O d_Mod_push_115 rfl ?_
  refine zi_get O f_Mod_23 d_Mod_push_116 rfl rfl ?_
  refine zi_iload O d_Mod_push_119 rfl ?_
  refine zi_aload_n O d_Mod_push_121 rfl ?_
  refine zi_get O f_Mod_50 d_Mod_push_122 rfl rfl ?_
  refine zi_iconstN O 3 d_Mod_push_125 (by decide) ?_
  refine zi_iald O d_Mod_push_126 rfl rfl (by omega) (Nat.le_of_ble_eq_true rfl) ?_
  rw [e3]
  refine zi_iast O d_Mod_push_127 rfl rfl (by omega) (Nat.le_of_ble_eq_true rfl) (by dsimp only [List.set]) ?_
  refine zi_aload_n O d_Mod_push_128 rfl ?_
  refine zi_get O f_Mod_53 d_Mod_push_129 rfl rfl ?_
  refine zi_iconstN O 0 d_Mod_push_132 (by decide) ?_
  refine zi_aload_n O d_Mod_push_133 rfl ?_
  refine zi_get O f_Mod_50 d_Mod_push_134 rfl rfl ?_
  refine zi_iconstN O 2 d_Mod_push_137 (by decide) ?_
  refine zi_iald O d_Mod_push_138 rfl rfl (by omega) (Nat.le_of_ble_eq_true rfl) ?_
  rw [e2]
  refine zi_iast O d_Mod_push_139 rfl rfl (by omega) (Nat.le_of_ble_eq_true rfl) (by dsimp only [List.set]) ?_
  refine zi_aload_n O d_Mod_push_140 rfl ?_
  refine zi_get O f_Mod_53 d_Mod_push_141 rfl rfl ?_
  refine zi_iconstN O 1 d_Mod_push_144 (by decide) ?_
  refine zi_aload_n O d_Mod_push_145 rfl ?_
  refine zi_get O f_Mod_50 d_Mod_push_146 rfl rfl ?_
  refine zi_iconstN O 0 d_Mod_push_149 (by decide) ?_
  refine zi_iald O d_Mod_push_150 rfl rfl (by omega) (Nat.le_of_ble_eq_true rfl) ?_
  rw [e0]
  refine zi_iast O d_Mod_push_151 rfl rfl (by omega) (Nat.le_of_ble_eq_true rfl) (by dsimp only [List.set]) ?_
  refine zi_aload_n O d_Mod_push_152 rfl ?_
  refine zi_get O f_Mod_53 d_Mod_push_153 rfl rfl ?_
  refine zi_iconstN O 2 d_Mod_push_156 (by decide) ?_
  refine zi_iload O d_Mod_push_157 rfl ?_
  refine zi_if_eq O 166 d_Mod_push_159 (by decide) (fun c159 => ?_) (fun c159 => ?_)
  · exact absurd c159 (by decide)
  refine zi_iload_n O d_Mod_push_162 rfl ?_
  refine zi_goto O 172 d_Mod_push_163 (by decide) ?_
  refine zi_iast O d_Mod_push_172 rfl rfl (by omega) (Nat.le_of_ble_eq_true rfl) (by dsimp only [List.set]) ?_
  refine zi_aload_n O d_Mod_push_173 rfl ?_
  refine zi_get O f_Mod_53 d_Mod_push_174 rfl rfl ?_
  refine zi_iconstN O 3 d_Mod_push_177 (by decide) ?_
  refine zi_iload_n O d_Mod_push_178 rfl ?_
  refine zi_if_eq O 191 d_Mod_push_179 (by decide) (fun c179 => ?_) (fun c179 => ?_)
  · exact absurd c179 (by decide)
  refine zi_aload_n O d_Mod_push_182 rfl ?_
  refine zi_get O f_Mod_50 d_Mod_push_183 rfl rfl ?_
  refine zi_iconstN O 1 d_Mod_push_186 (by decide) ?_
  refine zi_iald O d_Mod_push_187 rfl rfl (by omega) (Nat.le_of_ble_eq_true rfl) ?_
  rw [e1]
  refine zi_goto O 192 d_Mod_push_188 (by decide) ?_
  refine zi_iast O d_Mod_push_192 rfl rfl (by omega) (Nat.le_of_ble_eq_true rfl) (by dsimp only [List.set]) ?_
  refine zi_iload_n O d_Mod_push_193 rfl ?_
  refine zi_if_eq O 201 d_Mod_push_194 (by decide) (fun c194 => ?_) (fun c194 => ?_)
  · exact absurd c194 (by decide)
  refine zi_iconstN O 1 d_Mod_push_197 (by decide) ?_
  refine zi_goto O 202 d_Mod_push_198 (by decide) ?_
  refine zi_istore (ls' := _ :: _ :: _ :: _ :: _ :: _ :: _ :: _ :: _ :: some _ :: _) O d_Mod_push_202 rfl (by decide) rfl ?_
  refine zi_iload O d_Mod_push_204 rfl ?_
  refine zi_if_eq O 213 d_Mod_push_206 (by decide) (fun c206 => ?_) (fun c206 => ?_)
  · exact absurd c206 (by decide)
  refine zi_iconstN O 2 d_Mod_push_209 (by decide) ?_
  refine zi_goto O 214 d_Mod_push_210 (by decide) ?_
  refine zi_istore (ls' := _ :: _ :: _ :: _ :: _ :: _ :: _ :: _ :: _ :: _ :: some _ :: _) O d_Mod_push_214 rfl (by decide) rfl ?_
  refine zi_aload_n O d_Mod_push_216 rfl ?_
  refine zi_iload O d_Mod_push_217 rfl ?_
  refine zi_if_eq O 227 d_Mod_push_219 (by decide) (fun c219 => ?_) (fun c219 => ?_)
  rotate_left
  · exact absurd rfl c219
  refine zi_iload O d_Mod_push_227 rfl ?_
  refine zi_iload O d_Mod_push_229 rfl ?_
  refine zi_if_eq O 239 d_Mod_push_231 (by decide) (fun c231 => ?_) (fun c231 => ?_)
  rotate_left
  · exact absurd rfl c231
  refine zi_iload O d_Mod_push_239 rfl ?_
  refine zi_selfV O c_Mod_194 k_Mod_cross (m_Mod_cross (by omega) 1 2 (by decide) (by decide)) d_Mod_push_241 ⟨(Nat.le_of_ble_eq_true rfl), (Nat.le_of_ble_eq_true rfl)⟩ ⟨(Nat.le_of_ble_eq_true rfl), (Nat.le_of_ble_eq_true rfl)⟩ rfl rfl (Nat.le_of_ble_eq_true rfl) rfl rfl rfl (Nat.le_of_ble_eq_true rfl) rfl (fun r h' hq hl => ?_)
  obtain ⟨rfl, rfl⟩ := hq
  refine zi_st (st' := []) rfl ?_
  refine zi_aload_n O d_Mod_push_244 rfl ?_
  refine zi_get O f_Mod_53 d_Mod_push_245 rfl rfl ?_
  refine zi_iconstN O 0 d_Mod_push_248 (by decide) ?_
  refine zi_aload_n O d_Mod_push_249 rfl ?_
  refine zi_get O f_Mod_50 d_Mod_push_250 rfl rfl ?_
  refine zi_iconstN O 2 d_Mod_push_253 (by decide) ?_
  refine zi_iald O d_Mod_push_254 rfl rfl (by omega) (Nat.le_of_ble_eq_true rfl) ?_
  rw [e2]
  refine zi_iast O d_Mod_push_255 rfl rfl (by omega) (Nat.le_of_ble_eq_true rfl) (by dsimp only [List.set]) ?_
  refine zi_aload_n O d_Mod_push_256 rfl ?_
  refine zi_get O f_Mod_53 d_Mod_push_257 rfl rfl ?_
  refine zi_iconstN O 1 d_Mod_push_260 (by decide) ?_
  refine zi_iload_n O d_Mod_push_261 rfl ?_
  refine zi_if_eq O 269 d_Mod_push_262 (by decide) (fun c262 => ?_) (fun c262 => ?_)
  · exact absurd c262 (by decide)
  refine zi_iload_n O d_Mod_push_265 rfl ?_
  refine zi_goto O 275 d_Mod_push_266 (by decide) ?_
  refine zi_iast O d_Mod_push_275 rfl rfl (by omega) (Nat.le_of_ble_eq_true rfl) (by dsimp only [List.set]) ?_
  refine zi_aload_n O d_Mod_push_276 rfl ?_
  refine zi_get O f_Mod_53 d_Mod_push_277 rfl rfl ?_
  refine zi_iconstN O 2 d_Mod_push_280 (by decide) ?_
  refine zi_iload O d_Mod_push_281 rfl ?_
  refine zi_if_eq O 295 d_Mod_push_283 (by decide) (fun c283 => ?_) (fun c283 => ?_)
  · exact absurd c283 (by decide)
  refine zi_aload_n O d_Mod_push_286 rfl ?_
  refine zi_get O f_Mod_50 d_Mod_push_287 rfl rfl ?_
  refine zi_iconstN O 3 d_Mod_push_290 (by decide) ?_
  refine zi_iald O d_Mod_push_291 rfl rfl (by omega) (Nat.le_of_ble_eq_true rfl) ?_
  rw [e3]
  refine zi_goto O 296 d_Mod_push_292 (by decide) ?_
  refine zi_iast O d_Mod_push_296 rfl rfl (by omega) (Nat.le_of_ble_eq_true rfl) (by dsimp only [List.set]) ?_
  refine zi_aload_n O d_Mod_push_297 rfl ?_
  refine zi_get O f_Mod_53 d_Mod_push_298 rfl rfl ?_
  refine zi_iconstN O 3 d_Mod_push_301 (by decide) ?_
  refine zi_aload_n O d_Mod_push_302 rfl ?_
  refine zi_get O f_Mod_50 d_Mod_push_303 rfl rfl ?_
  refine zi_iconstN O 0 d_Mod_push_306 (by decide) ?_
  refine zi_iald O d_Mod_push_307 rfl rfl (by omega) (Nat.le_of_ble_eq_true rfl) ?_
  rw [e0]
  refine zi_iast O d_Mod_push_308 rfl rfl (by omega) (Nat.le_of_ble_eq_true rfl) (by dsimp only [List.set]) ?_
  refine zi_iload O d_Mod_push_309 rfl ?_
  refine zi_if_eq O 318 d_Mod_push_311 (by decide) (fun c311 => ?_) (fun c311 => ?_)
  · exact absurd c311 (by decide)
  refine zi_iconstN O 0 d_Mod_push_314 (by decide) ?_
  refine zi_goto O 319 d_Mod_push_315 (by decide) ?_
  refine zi_istore (ls' := _ :: _ :: _ :: _ :: _ :: _ :: _ :: _ :: _ :: _ :: some _ :: _) O d_Mod_push_319 rfl (by decide) rfl ?_
  refine zi_aload_n O d_Mod_push_321 rfl ?_
  refine zi_iload O d_Mod_push_322 rfl ?_
  refine zi_if_eq O 332 d_Mod_push_324 (by decide) (fun c324 => ?_) (fun c324 => ?_)
  rotate_left
  · exact absurd rfl c324
  refine zi_iload O d_Mod_push_332 rfl ?_
  refine zi_iload O d_Mod_push_334 rfl ?_
  refine zi_if_eq O 344 d_Mod_push_336 (by decide) (fun c336 => ?_) (fun c336 => ?_)
  rotate_left
  · exact absurd rfl c336
  refine zi_iload O d_Mod_push_344 rfl ?_
  refine zi_selfV O c_Mod_194 k_Mod_cross (m_Mod_cross (by omega) 1 0 (by decide) (by decide)) d_Mod_push_346 ⟨(Nat.le_of_ble_eq_true rfl), (Nat.le_of_ble_eq_true rfl)⟩ ⟨(Nat.le_of_ble_eq_true rfl), (Nat.le_of_ble_eq_true rfl)⟩ rfl rfl (Nat.le_of_ble_eq_true rfl) rfl rfl rfl (Nat.le_of_ble_eq_true rfl) rfl (fun r h' hq hl => ?_)
  obtain ⟨rfl, rfl⟩ := hq
  refine zi_st (st' := []) rfl ?_
  refine zi_iconstN O 1 d_Mod_push_349 (by decide) ?_
  refine zi_zret O d_Mod_push_350 rfl (Nat.le_of_ble_eq_true rfl) (Nat.le_of_ble_eq_true rfl) (Nat.le_of_ble_eq_true rfl) ?_
  have hR2 := rowOK_up (rowOK_up hR (to_ e) v (by omega)) (to_ f) z (by omega)
  refine Or.inr ⟨e, f, hok, rfl, _, _, _, _, _, _, _, _, _, _, _, _, _, _, _, _, _, _, _, _, _, rfl, ?_, sg_upd (sg_upd hS _) _, sg_add (sg_add hG (by decide)) (by decide), hPR, hPS, hPG⟩
  exact rowOK_ad (l0 := el e) (l1 := z) (l2 := u) (l3 := w) (rowOK_ad (l0 := u) (l1 := el f) (l2 := v) (l3 := w) hR2 (by omega) (by omega) (by omega) (by omega) (by omega)) (by omega) (by omega) (by omega) (by omega) (by omega)
set_option maxHeartbeats 4000000 in
theorem m_Mod_push_111 (hM : Mdl k plab T n lab S0 ci h) (hE : Ed n lab S0 el fr to_ at_) (hP : PcE (2 * n) n fr to_ oc) (x y : Int32) (u v w z : Nat) (hu : u = fN el 0 (2 * n)) (hv : v = fN el u (2 * n)) (hw : w = fN el v (2 * n)) (hzz : z = fN el w (2 * n)) : zMet y_Mod_push b_Mod_push 11 (some .boolean) ⟨7, 0, 0, 200⟩ [.ref 0, .int x, .int (bI true), .int y, .int (bI true), .int (bI true)] h
    (fun r h' => (r = some (.int (nI 0)) ∧ Mdl k plab T n lab S0 ci h' ∧ ∀ e f, ¬ PushOK n el fr to_ at_ oc x y true true e f) ∨ (∃ e f, PushOK n el fr to_ at_ oc x y true true e f ∧ r = some (.int (nI 1)) ∧ Mdl k plab T (n + 1 + 1) (phL true false false (va_up (va_up lab (to_ e) v) (to_ f) z) n (el e) u v (el f) w z) (upd (upd S0 n (phS true false false)) (n + 1) (-(phS true false false))) ci h')) := by
  have hM0 := hM
  obtain ⟨wrong, pS, pL, oN, oC, S, L, oS, oL, labs, row, fresh, piece, closed, faces, comp, fof, sides, side, free, arnd, rfl, hR, hS, hG, hPR, hPS, hPG⟩ := hM
  have hn := hR.1
  have hE' := ed_same hE (fun _ _ => rfl) hS
  have hG' := sg_same hG hS
  have bu := fN_le el 0 (2 * n)
  have bv := fN_le el u (2 * n)
  have bw := fN_le el v (2 * n)
  have bz := fN_le el w (2 * n)
  rw [← hu] at bu
  rw [← hv] at bv
  rw [← hw] at bw
  rw [← hzz] at bz
  refine zMet_of (plainFor_of_name (by decide +kernel)) rfl (Nat.le_of_ble_eq_true rfl) (fun z1 z2 z3 z4 z5 z6 z7 z8 z9 z10 z11 z12 z13 z14 O hin => ?_)
  refine zi_ls (ls' := [some (.ref 0), some (.int x), some (.int (bI true)), some (.int y), some (.int (bI true)), some (.int (bI true)), none, none, none, none, none]) rfl ?_
  have bad : (∀ e f, ¬ PushOK n el fr to_ at_ oc x y true true e f) → zG z1 z2 z3 z4 z5 z6 z7 z8 z9 z10 z11 z12 z13 z14 15 11 (fun r h' => (r = some (.int (nI 0)) ∧ Mdl k plab T n lab S0 ci h' ∧ ∀ e f, ¬ PushOK n el fr to_ at_ oc x y true true e f) ∨ (∃ e f, PushOK n el fr to_ at_ oc x y true true e f ∧ r = some (.int (nI 1)) ∧ Mdl k plab T (n + 1 + 1) (phL true false false (va_up (va_up lab (to_ e) v) (to_ f) z) n (el e) u v (el f) w z) (upd (upd S0 n (phS true false false)) (n + 1) (-(phS true false false))) ci h')) 0 0 0 0 35 [some (.ref 0), some (.int x), some (.int (bI true)), some (.int y), some (.int (bI true)), some (.int (bI true)), none, none, none, none, none] [] (mh k wrong pS pL n ci oN oC S L oS oL labs row fresh piece closed faces comp fof sides side free arnd) := by
    intro hno
    refine zi_iconstN O 0 d_Mod_push_35 (by decide) ?_
    refine zi_istore (ls' := _ :: _ :: _ :: _ :: _ :: _ :: some _ :: _) O d_Mod_push_36 rfl (by decide) rfl ?_
    refine zi_iload O d_Mod_push_38 rfl ?_
    refine zi_if_eq O 80 d_Mod_push_40 (by decide) (fun c40 => ?_) (fun c40 => ?_)
    · refine zi_iconstN O 0 d_Mod_push_80 (by decide) ?_
      refine zi_zret O d_Mod_push_81 rfl (Nat.le_of_ble_eq_true rfl) (Nat.le_of_ble_eq_true rfl) (Nat.le_of_ble_eq_true rfl) ?_
      exact Or.inl ⟨rfl, hM0, hno⟩
    · exact absurd rfl c40
  refine zi_iload_n O d_Mod_push_0 rfl ?_
  refine zi_if_le O 35 d_Mod_push_1 (by decide) (fun c1 => ?_) (fun c1 => ?_)
  · refine bad (fun e f q => ?_)
    have := el_ok hR hE q.1
    rw [q.2.2.1] at c1
    exact nI_nle (by omega) (by omega) c1
  obtain ⟨l, rfl, hl1, hl2⟩ := pos_nat c1
  refine zi_iload_n O d_Mod_push_4 rfl ?_
  refine zi_if_le O 35 d_Mod_push_5 (by decide) (fun c5 => ?_) (fun c5 => ?_)
  · refine bad (fun e f q => ?_)
    have := el_ok hR hE q.2.1
    rw [q.2.2.2.1] at c5
    exact nI_nle (by omega) (by omega) c5
  obtain ⟨m, rfl, hm1, hm2⟩ := pos_nat c5
  refine zi_iload_n O d_Mod_push_8 rfl ?_
  refine zi_iload_n O d_Mod_push_9 rfl ?_
  refine zi_icmp_eq O 35 d_Mod_push_10 (by decide) (fun c10 => ?_) (fun c10 => ?_)
  · refine bad (fun e f q => ?_)
    exact q.2.2.2.2.1 (el_uniq hR hE q.1 q.2.1 (by rw [← q.2.2.1, ← q.2.2.2.1]; exact c10))
  refine zi_aload_n O d_Mod_push_13 rfl ?_
  refine zi_iload_n O d_Mod_push_14 rfl ?_
  refine zi_iconstN O 1 d_Mod_push_15 (by decide) ?_
  refine zi_selfP O c_Mod_66 k_Mod_placeOf (m_Mod_placeOf lab hR hG' l 1 hl2) d_Mod_push_16 ⟨(Nat.le_of_ble_eq_true rfl), (Nat.le_of_ble_eq_true rfl)⟩ ⟨(Nat.le_of_ble_eq_true rfl), (Nat.le_of_ble_eq_true rfl)⟩ rfl rfl (Nat.le_of_ble_eq_true rfl) rfl rfl rfl (Nat.le_of_ble_eq_true rfl) rfl ?_
  by_cases c : ∃ e, e < 2 * n ∧ el e = l
  rotate_left
  · rw [plc_no hE' (fun e he z => c ⟨e, he, z⟩)]
    refine zi_if_lt O 35 d_Mod_push_19 (by decide) (fun c19 => ?_) (fun c19 => ?_)
    · refine bad (fun e f q => c ⟨e, q.1, ?_⟩)
      have := el_ok hR hE q.1
      exact ((nI_eq (by omega) (by omega)).mp q.2.2.1).symm
    · exact absurd (by decide) c19
  obtain ⟨e, he, rfl⟩ := c
  obtain ⟨f1, f2, f3, f4, f5, f6⟩ := hE.1 e he
  rw [plc_fr hE' he]
  refine zi_if_lt O 35 d_Mod_push_19 (by decide) (fun c19 => ?_) (fun c19 => ?_)
  · exact absurd c19 (nI_pos (by omega))
  refine zi_aload_n O d_Mod_push_22 rfl ?_
  refine zi_iload_n O d_Mod_push_23 rfl ?_
  refine zi_iconstN O 1 d_Mod_push_24 (by decide) ?_
  refine zi_selfP O c_Mod_66 k_Mod_placeOf (m_Mod_placeOf lab hR hG' m 1 hm2) d_Mod_push_25 ⟨(Nat.le_of_ble_eq_true rfl), (Nat.le_of_ble_eq_true rfl)⟩ ⟨(Nat.le_of_ble_eq_true rfl), (Nat.le_of_ble_eq_true rfl)⟩ rfl rfl (Nat.le_of_ble_eq_true rfl) rfl rfl rfl (Nat.le_of_ble_eq_true rfl) rfl ?_
  by_cases c : ∃ e, e < 2 * n ∧ el e = m
  rotate_left
  · rw [plc_no hE' (fun e he z => c ⟨e, he, z⟩)]
    refine zi_if_lt O 35 d_Mod_push_28 (by decide) (fun c28 => ?_) (fun c28 => ?_)
    · refine bad (fun e f q => c ⟨f, q.2.1, ?_⟩)
      have := el_ok hR hE q.2.1
      exact ((nI_eq (by omega) (by omega)).mp q.2.2.2.1).symm
    · exact absurd (by decide) c28
  obtain ⟨f, hf, rfl⟩ := c
  obtain ⟨g1, g2, g3, g4, g5, g6⟩ := hE.1 f hf
  rw [plc_fr hE' hf]
  refine zi_if_lt O 35 d_Mod_push_28 (by decide) (fun c28 => ?_) (fun c28 => ?_)
  · exact absurd c28 (nI_pos (by omega))
  have hef : e ≠ f := fun q => c10 (by rw [q])
  have only : ∀ e' f', PushOK n el fr to_ at_ oc (nI (el e)) (nI (el f)) true true e' f' → e' = e ∧ f' = f := fun e' f' q => ⟨(el_uniq hR hE he q.1 q.2.2.1).symm, (el_uniq hR hE hf q.2.1 q.2.2.2.1).symm⟩
  refine zi_iconstN O 1 d_Mod_push_31 (by decide) ?_
  refine zi_goto O 36 d_Mod_push_32 (by decide) ?_
  refine zi_istore (ls' := _ :: _ :: _ :: _ :: _ :: _ :: some _ :: _) O d_Mod_push_36 rfl (by decide) rfl ?_
  refine zi_iload O d_Mod_push_38 rfl ?_
  refine zi_if_eq O 80 d_Mod_push_40 (by decide) (fun c40 => ?_) (fun c40 => ?_)
  · exact absurd c40 (by decide)
  refine zi_aload_n O d_Mod_push_43 rfl ?_
  refine zi_get O f_Mod_59 d_Mod_push_44 rfl rfl ?_
  refine zi_bipushN O 18 d_Mod_push_47 (by decide) ?_
  refine zi_icmp_gtN O 80 d_Mod_push_49 (by decide) (by omega) (by omega) (fun c49 => ?_) (fun c49 => ?_)
  · refine zi_iconstN O 0 d_Mod_push_80 (by decide) ?_
    refine zi_zret O d_Mod_push_81 rfl (Nat.le_of_ble_eq_true rfl) (Nat.le_of_ble_eq_true rfl) (Nat.le_of_ble_eq_true rfl) ?_
    exact Or.inl ⟨rfl, hM0, fun e f q => by have := q.2.2.2.2.2.1; omega⟩
  refine zi_aload_n O d_Mod_push_52 rfl ?_
  refine zi_iload_n O d_Mod_push_53 rfl ?_
  refine zi_iload_n O d_Mod_push_54 rfl ?_
  refine zi_if_eq O 62 d_Mod_push_55 (by decide) (fun c55 => ?_) (fun c55 => ?_)
  · exact absurd c55 (by decide)
  refine zi_iconstN O 1 d_Mod_push_58 (by decide) ?_
  refine zi_goto O 63 d_Mod_push_59 (by decide) ?_
  refine zi_iload_n O d_Mod_push_63 rfl ?_
  refine zi_iload O d_Mod_push_64 rfl ?_
  refine zi_if_eq O 73 d_Mod_push_66 (by decide) (fun c66 => ?_) (fun c66 => ?_)
  · exact absurd c66 (by decide)
  refine zi_iconstN O 1 d_Mod_push_69 (by decide) ?_
  refine zi_goto O 74 d_Mod_push_70 (by decide) ?_
  refine zi_selfV O c_Mod_190 k_Mod_areOne (m_Mod_areOne hR hG' hE' hP e f 1 1 he hf (by decide) (by decide)) d_Mod_push_74 ⟨(Nat.le_of_ble_eq_true rfl), (Nat.le_of_ble_eq_true rfl)⟩ ⟨(Nat.le_of_ble_eq_true rfl), (Nat.le_of_ble_eq_true rfl)⟩ rfl rfl (Nat.le_of_ble_eq_true rfl) rfl rfl rfl (Nat.le_of_ble_eq_true rfl) rfl (fun r h' hq hl => ?_)
  obtain ⟨hq, row', fof', piece', rfl⟩ := hq
  rcases hq with ⟨rfl, hmt⟩ | ⟨rfl, hmt⟩
  rotate_left
  · refine zi_st (st' := [.int (nI 0)]) rfl ?_
    refine zi_if_ne O 82 d_Mod_push_77 (by decide) (fun c77 => ?_) (fun c77 => ?_)
    · exact absurd rfl c77
    · refine zi_iconstN O 0 d_Mod_push_80 (by decide) ?_
      refine zi_zret O d_Mod_push_81 rfl (Nat.le_of_ble_eq_true rfl) (Nat.le_of_ble_eq_true rfl) (Nat.le_of_ble_eq_true rfl) ?_
      refine Or.inl ⟨rfl, ⟨_, _, _, _, _, _, _, _, _, _, _, _, _, _, _, _, _, _, _, _, _, rfl, hR, hS, hG, hPR, hPS, hPG⟩, fun e' f' q => ?_⟩
      obtain ⟨rfl, rfl⟩ := only e' f' q
      exact hmt q.2.2.2.2.2.2
  refine zi_st (st' := [.int (nI 1)]) rfl ?_
  refine zi_if_ne O 82 d_Mod_push_77 (by decide) (fun c77 => ?_) (fun c77 => ?_)
  rotate_left
  · exact absurd c77 (by decide)
  have hok : PushOK n el fr to_ at_ oc (nI (el e)) (nI (el f)) true true e f := ⟨he, hf, rfl, rfl, hef, by omega, hmt⟩
  refine zi_aload_n O d_Mod_push_82 rfl ?_
  refine zi_selfV O c_Mod_136 k_Mod_findFree (m_Mod_findFree hR hE') d_Mod_push_83 ⟨(Nat.le_of_ble_eq_true rfl), (Nat.le_of_ble_eq_true rfl)⟩ ⟨(Nat.le_of_ble_eq_true rfl), (Nat.le_of_ble_eq_true rfl)⟩ rfl rfl (Nat.le_of_ble_eq_true rfl) rfl rfl rfl (Nat.le_of_ble_eq_true rfl) rfl (fun r h' hq hl => ?_)
  obtain ⟨rfl, row'', free', rfl, -, hfr⟩ := hq
  refine zi_st (st' := []) rfl ?_
  have e0 : free' 0 = nI u := by rw [hfr 0 (by decide), hu]; rfl
  have e1 : free' 1 = nI v := by rw [hfr 1 (by decide), hv, hu]; rfl
  have e2 : free' 2 = nI w := by rw [hfr 2 (by decide), hw, hv, hu]; rfl
  have e3 : free' 3 = nI z := by rw [hfr 3 (by decide), hzz, hw, hv, hu]; rfl
  have be := el_ok hR hE he
  have bf := el_ok hR hE hf
  refine zi_aload_n O d_Mod_push_86 rfl ?_
  refine zi_iload_n O d_Mod_push_87 rfl ?_
  refine zi_iconstN O 0 d_Mod_push_88 (by decide) ?_
  refine zi_selfP O c_Mod_66 k_Mod_placeOf (m_Mod_to hR hG' hE' he) d_Mod_push_89 ⟨(Nat.le_of_ble_eq_true rfl), (Nat.le_of_ble_eq_true rfl)⟩ ⟨(Nat.le_of_ble_eq_true rfl), (Nat.le_of_ble_eq_true rfl)⟩ rfl rfl (Nat.le_of_ble_eq_true rfl) rfl rfl rfl (Nat.le_of_ble_eq_true rfl) rfl ?_
  refine zi_istore (ls' := _ :: _ :: _ :: _ :: _ :: _ :: _ :: some _ :: _) O d_Mod_push_92 rfl (by decide) rfl ?_
  refine zi_aload_n O d_Mod_push_94 rfl ?_
  refine zi_iload_n O d_Mod_push_95 rfl ?_
  refine zi_iconstN O 0 d_Mod_push_96 (by decide) ?_
  refine zi_selfP O c_Mod_66 k_Mod_placeOf (m_Mod_to hR hG' hE' hf) d_Mod_push_97 ⟨(Nat.le_of_ble_eq_true rfl), (Nat.le_of_ble_eq_true rfl)⟩ ⟨(Nat.le_of_ble_eq_true rfl), (Nat.le_of_ble_eq_true rfl)⟩ rfl rfl (Nat.le_of_ble_eq_true rfl) rfl rfl rfl (Nat.le_of_ble_eq_true rfl) rfl ?_
  refine zi_istore (ls' := _ :: _ :: _ :: _ :: _ :: _ :: _ :: _ :: some _ :: _) O d_Mod_push_100 rfl (by decide) rfl ?_
  refine zi_aload_n O d_Mod_push_102 rfl ?_
  refine zi_get O f_Mod_23 d_Mod_push_103 rfl rfl ?_
  refine zi_iload O d_Mod_push_106 rfl ?_
  refine zi_aload_n O d_Mod_push_108 rfl ?_
  refine zi_get O f_Mod_50 d_Mod_push_109 rfl rfl ?_
  refine zi_iconstN O 1 d_Mod_push_112 (by decide) ?_
  refine zi_iald O d_Mod_push_113 rfl rfl (by omega) (Nat.le_of_ble_eq_true rfl) ?_
  rw [e1]
  refine zi_iast O d_Mod_push_114 rfl rfl (by omega) (Nat.le_of_ble_eq_true rfl) (by dsimp only [List.set]) ?_
  refine zi_aload_n O d_Mod_push_115 rfl ?_
  refine zi_get O f_Mod_23 d_Mod_push_116 rfl rfl ?_
  refine zi_iload O d_Mod_push_119 rfl ?_
  refine zi_aload_n O d_Mod_push_121 rfl ?_
  refine zi_get O f_Mod_50 d_Mod_push_122 rfl rfl ?_
  refine zi_iconstN O 3 d_Mod_push_125 (by decide) ?_
  refine zi_iald O d_Mod_push_126 rfl rfl (by omega) (Nat.le_of_ble_eq_true rfl) ?_
  rw [e3]
  refine zi_iast O d_Mod_push_127 rfl rfl (by omega) (Nat.le_of_ble_eq_true rfl) (by dsimp only [List.set]) ?_
  refine zi_aload_n O d_Mod_push_128 rfl ?_
  refine zi_get O f_Mod_53 d_Mod_push_129 rfl rfl ?_
  refine zi_iconstN O 0 d_Mod_push_132 (by decide) ?_
  refine zi_aload_n O d_Mod_push_133 rfl ?_
  refine zi_get O f_Mod_50 d_Mod_push_134 rfl rfl ?_
  refine zi_iconstN O 2 d_Mod_push_137 (by decide) ?_
  refine zi_iald O d_Mod_push_138 rfl rfl (by omega) (Nat.le_of_ble_eq_true rfl) ?_
  rw [e2]
  refine zi_iast O d_Mod_push_139 rfl rfl (by omega) (Nat.le_of_ble_eq_true rfl) (by dsimp only [List.set]) ?_
  refine zi_aload_n O d_Mod_push_140 rfl ?_
  refine zi_get O f_Mod_53 d_Mod_push_141 rfl rfl ?_
  refine zi_iconstN O 1 d_Mod_push_144 (by decide) ?_
  refine zi_aload_n O d_Mod_push_145 rfl ?_
  refine zi_get O f_Mod_50 d_Mod_push_146 rfl rfl ?_
  refine zi_iconstN O 0 d_Mod_push_149 (by decide) ?_
  refine zi_iald O d_Mod_push_150 rfl rfl (by omega) (Nat.le_of_ble_eq_true rfl) ?_
  rw [e0]
  refine zi_iast O d_Mod_push_151 rfl rfl (by omega) (Nat.le_of_ble_eq_true rfl) (by dsimp only [List.set]) ?_
  refine zi_aload_n O d_Mod_push_152 rfl ?_
  refine zi_get O f_Mod_53 d_Mod_push_153 rfl rfl ?_
  refine zi_iconstN O 2 d_Mod_push_156 (by decide) ?_
  refine zi_iload O d_Mod_push_157 rfl ?_
  refine zi_if_eq O 166 d_Mod_push_159 (by decide) (fun c159 => ?_) (fun c159 => ?_)
  · exact absurd c159 (by decide)
  refine zi_iload_n O d_Mod_push_162 rfl ?_
  refine zi_goto O 172 d_Mod_push_163 (by decide) ?_
  refine zi_iast O d_Mod_push_172 rfl rfl (by omega) (Nat.le_of_ble_eq_true rfl) (by dsimp only [List.set]) ?_
  refine zi_aload_n O d_Mod_push_173 rfl ?_
  refine zi_get O f_Mod_53 d_Mod_push_174 rfl rfl ?_
  refine zi_iconstN O 3 d_Mod_push_177 (by decide) ?_
  refine zi_iload_n O d_Mod_push_178 rfl ?_
  refine zi_if_eq O 191 d_Mod_push_179 (by decide) (fun c179 => ?_) (fun c179 => ?_)
  · exact absurd c179 (by decide)
  refine zi_aload_n O d_Mod_push_182 rfl ?_
  refine zi_get O f_Mod_50 d_Mod_push_183 rfl rfl ?_
  refine zi_iconstN O 1 d_Mod_push_186 (by decide) ?_
  refine zi_iald O d_Mod_push_187 rfl rfl (by omega) (Nat.le_of_ble_eq_true rfl) ?_
  rw [e1]
  refine zi_goto O 192 d_Mod_push_188 (by decide) ?_
  refine zi_iast O d_Mod_push_192 rfl rfl (by omega) (Nat.le_of_ble_eq_true rfl) (by dsimp only [List.set]) ?_
  refine zi_iload_n O d_Mod_push_193 rfl ?_
  refine zi_if_eq O 201 d_Mod_push_194 (by decide) (fun c194 => ?_) (fun c194 => ?_)
  · exact absurd c194 (by decide)
  refine zi_iconstN O 1 d_Mod_push_197 (by decide) ?_
  refine zi_goto O 202 d_Mod_push_198 (by decide) ?_
  refine zi_istore (ls' := _ :: _ :: _ :: _ :: _ :: _ :: _ :: _ :: _ :: some _ :: _) O d_Mod_push_202 rfl (by decide) rfl ?_
  refine zi_iload O d_Mod_push_204 rfl ?_
  refine zi_if_eq O 213 d_Mod_push_206 (by decide) (fun c206 => ?_) (fun c206 => ?_)
  · exact absurd c206 (by decide)
  refine zi_iconstN O 2 d_Mod_push_209 (by decide) ?_
  refine zi_goto O 214 d_Mod_push_210 (by decide) ?_
  refine zi_istore (ls' := _ :: _ :: _ :: _ :: _ :: _ :: _ :: _ :: _ :: _ :: some _ :: _) O d_Mod_push_214 rfl (by decide) rfl ?_
  refine zi_aload_n O d_Mod_push_216 rfl ?_
  refine zi_iload O d_Mod_push_217 rfl ?_
  refine zi_if_eq O 227 d_Mod_push_219 (by decide) (fun c219 => ?_) (fun c219 => ?_)
  · exact absurd c219 (by decide)
  refine zi_iload O d_Mod_push_222 rfl ?_
  refine zi_goto O 229 d_Mod_push_224 (by decide) ?_
  refine zi_iload O d_Mod_push_229 rfl ?_
  refine zi_if_eq O 239 d_Mod_push_231 (by decide) (fun c231 => ?_) (fun c231 => ?_)
  · exact absurd c231 (by decide)
  refine zi_iload O d_Mod_push_234 rfl ?_
  refine zi_goto O 241 d_Mod_push_236 (by decide) ?_
  refine zi_selfV O c_Mod_194 k_Mod_cross (m_Mod_cross (by omega) 2 1 (by decide) (by decide)) d_Mod_push_241 ⟨(Nat.le_of_ble_eq_true rfl), (Nat.le_of_ble_eq_true rfl)⟩ ⟨(Nat.le_of_ble_eq_true rfl), (Nat.le_of_ble_eq_true rfl)⟩ rfl rfl (Nat.le_of_ble_eq_true rfl) rfl rfl rfl (Nat.le_of_ble_eq_true rfl) rfl (fun r h' hq hl => ?_)
  obtain ⟨rfl, rfl⟩ := hq
  refine zi_st (st' := []) rfl ?_
  refine zi_aload_n O d_Mod_push_244 rfl ?_
  refine zi_get O f_Mod_53 d_Mod_push_245 rfl rfl ?_
  refine zi_iconstN O 0 d_Mod_push_248 (by decide) ?_
  refine zi_aload_n O d_Mod_push_249 rfl ?_
  refine zi_get O f_Mod_50 d_Mod_push_250 rfl rfl ?_
  refine zi_iconstN O 2 d_Mod_push_253 (by decide) ?_
  refine zi_iald O d_Mod_push_254 rfl rfl (by omega) (Nat.le_of_ble_eq_true rfl) ?_
  rw [e2]
  refine zi_iast O d_Mod_push_255 rfl rfl (by omega) (Nat.le_of_ble_eq_true rfl) (by dsimp only [List.set]) ?_
  refine zi_aload_n O d_Mod_push_256 rfl ?_
  refine zi_get O f_Mod_53 d_Mod_push_257 rfl rfl ?_
  refine zi_iconstN O 1 d_Mod_push_260 (by decide) ?_
  refine zi_iload_n O d_Mod_push_261 rfl ?_
  refine zi_if_eq O 269 d_Mod_push_262 (by decide) (fun c262 => ?_) (fun c262 => ?_)
  · exact absurd c262 (by decide)
  refine zi_iload_n O d_Mod_push_265 rfl ?_
  refine zi_goto O 275 d_Mod_push_266 (by decide) ?_
  refine zi_iast O d_Mod_push_275 rfl rfl (by omega) (Nat.le_of_ble_eq_true rfl) (by dsimp only [List.set]) ?_
  refine zi_aload_n O d_Mod_push_276 rfl ?_
  refine zi_get O f_Mod_53 d_Mod_push_277 rfl rfl ?_
  refine zi_iconstN O 2 d_Mod_push_280 (by decide) ?_
  refine zi_iload O d_Mod_push_281 rfl ?_
  refine zi_if_eq O 295 d_Mod_push_283 (by decide) (fun c283 => ?_) (fun c283 => ?_)
  · exact absurd c283 (by decide)
  refine zi_aload_n O d_Mod_push_286 rfl ?_
  refine zi_get O f_Mod_50 d_Mod_push_287 rfl rfl ?_
  refine zi_iconstN O 3 d_Mod_push_290 (by decide) ?_
  refine zi_iald O d_Mod_push_291 rfl rfl (by omega) (Nat.le_of_ble_eq_true rfl) ?_
  rw [e3]
  refine zi_goto O 296 d_Mod_push_292 (by decide) ?_
  refine zi_iast O d_Mod_push_296 rfl rfl (by omega) (Nat.le_of_ble_eq_true rfl) (by dsimp only [List.set]) ?_
  refine zi_aload_n O d_Mod_push_297 rfl ?_
  refine zi_get O f_Mod_53 d_Mod_push_298 rfl rfl ?_
  refine zi_iconstN O 3 d_Mod_push_301 (by decide) ?_
  refine zi_aload_n O d_Mod_push_302 rfl ?_
  refine zi_get O f_Mod_50 d_Mod_push_303 rfl rfl ?_
  refine zi_iconstN O 0 d_Mod_push_306 (by decide) ?_
  refine zi_iald O d_Mod_push_307 rfl rfl (by omega) (Nat.le_of_ble_eq_true rfl) ?_
  rw [e0]
  refine zi_iast O d_Mod_push_308 rfl rfl (by omega) (Nat.le_of_ble_eq_true rfl) (by dsimp only [List.set]) ?_
  refine zi_iload O d_Mod_push_309 rfl ?_
  refine zi_if_eq O 318 d_Mod_push_311 (by decide) (fun c311 => ?_) (fun c311 => ?_)
  · exact absurd c311 (by decide)
  refine zi_iconstN O 0 d_Mod_push_314 (by decide) ?_
  refine zi_goto O 319 d_Mod_push_315 (by decide) ?_
  refine zi_istore (ls' := _ :: _ :: _ :: _ :: _ :: _ :: _ :: _ :: _ :: _ :: some _ :: _) O d_Mod_push_319 rfl (by decide) rfl ?_
  refine zi_aload_n O d_Mod_push_321 rfl ?_
  refine zi_iload O d_Mod_push_322 rfl ?_
  refine zi_if_eq O 332 d_Mod_push_324 (by decide) (fun c324 => ?_) (fun c324 => ?_)
  · exact absurd c324 (by decide)
  refine zi_iload O d_Mod_push_327 rfl ?_
  refine zi_goto O 334 d_Mod_push_329 (by decide) ?_
  refine zi_iload O d_Mod_push_334 rfl ?_
  refine zi_if_eq O 344 d_Mod_push_336 (by decide) (fun c336 => ?_) (fun c336 => ?_)
  · exact absurd c336 (by decide)
  refine zi_iload O d_Mod_push_339 rfl ?_
  refine zi_goto O 346 d_Mod_push_341 (by decide) ?_
  refine zi_selfV O c_Mod_194 k_Mod_cross (m_Mod_cross (by omega) 0 1 (by decide) (by decide)) d_Mod_push_346 ⟨(Nat.le_of_ble_eq_true rfl), (Nat.le_of_ble_eq_true rfl)⟩ ⟨(Nat.le_of_ble_eq_true rfl), (Nat.le_of_ble_eq_true rfl)⟩ rfl rfl (Nat.le_of_ble_eq_true rfl) rfl rfl rfl (Nat.le_of_ble_eq_true rfl) rfl (fun r h' hq hl => ?_)
  obtain ⟨rfl, rfl⟩ := hq
  refine zi_st (st' := []) rfl ?_
  refine zi_iconstN O 1 d_Mod_push_349 (by decide) ?_
  refine zi_zret O d_Mod_push_350 rfl (Nat.le_of_ble_eq_true rfl) (Nat.le_of_ble_eq_true rfl) (Nat.le_of_ble_eq_true rfl) ?_
  have hR2 := rowOK_up (rowOK_up hR (to_ e) v (by omega)) (to_ f) z (by omega)
  refine Or.inr ⟨e, f, hok, rfl, _, _, _, _, _, _, _, _, _, _, _, _, _, _, _, _, _, _, _, _, _, rfl, ?_, sg_upd (sg_upd hS _) _, sg_add (sg_add hG (by decide)) (by decide), hPR, hPS, hPG⟩
  exact rowOK_ad (l0 := w) (l1 := el e) (l2 := z) (l3 := u) (rowOK_ad (l0 := el f) (l1 := v) (l2 := w) (l3 := u) hR2 (by omega) (by omega) (by omega) (by omega) (by omega)) (by omega) (by omega) (by omega) (by omega) (by omega)
end
