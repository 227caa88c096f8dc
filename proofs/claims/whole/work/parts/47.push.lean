/-! pushDart -/
def phS (ov ax ay : Bool) : Int32 := if ov == (ax == ay) then nI 1 else -1
def phL (ov ax ay : Bool) (lab : Nat → Nat) (n x1 x2 x3 y1 y2 y3 : Nat) : Nat → Nat := if ov then cr (cr lab n (phS ov ax ay) ax (!ay) x1 x2 x3 y1 y2 y3) (n + 1) (-phS ov ax ay) (!ax) ay x1 x2 x3 y1 y2 y3 else cr (cr lab n (phS ov ax ay) (!ay) ax y1 y2 y3 x1 x2 x3) (n + 1) (-phS ov ax ay) ay (!ax) y1 y2 y3 x1 x2 x3
section
variable {n : Nat} {lab : Nat → Nat} {S : Nat → Int32} {ci : Int32} {el fr to_ at_ oc : Nat → Nat} {h : List zE}
theorem m_Dia_pushDart_no (hD : Dia n lab S ci el fr to_ at_ oc h) (a b : Nat) (x : Int32) (ha : a < 4 * n) (hb : b < 4 * n) (hm : ¬ (oc (ca fr to_ a) ≠ oc (ca fr to_ b) ∨ (FF (nxD fr to_ at_) (4 * n) (4 * n)).1 a = (FF (nxD fr to_ at_) (4 * n) (4 * n)).1 b)) : zPu y_Dia_pushDart b_Dia_pushDart 9 (some .boolean) ⟨6, 0, 0, 170⟩ [.ref 0, .int (nI a), .int (nI b), .int x] h (.int (nI 0)) := by
  have hD' := hD
  obtain ⟨L, PL, LB, FR, TO, AT, OF, RD, ST, OC, CE, SL, rfl, hR, hG, hz, hE, hA, hRd, hO, hP, hOF⟩ := hD
  refine zMet_of (plainFor_of_name (by decide +kernel)) rfl (Nat.le_of_ble_eq_true rfl) (fun z1 z2 z3 z4 z5 z6 z7 z8 z9 z10 z11 z12 z13 z14 O hin => ?_)
  refine zi_ls (ls' := [some (.ref 0), some (.int (nI a)), some (.int (nI b)), some (.int x), none, none, none, none, none]) rfl ?_
  refine zi_aload_n O d_Dia_pushDart_0 rfl ?_
  refine zi_iload_n O d_Dia_pushDart_1 rfl ?_
  refine zi_iload_n O d_Dia_pushDart_2 rfl ?_
  refine zi_selfP O c_Dia_177 k_Dia_canMeet (m_Dia_canMeet hD' a b ha hb) d_Dia_pushDart_3 ⟨(Nat.le_of_ble_eq_true rfl), (Nat.le_of_ble_eq_true rfl)⟩ ⟨(Nat.le_of_ble_eq_true rfl), (Nat.le_of_ble_eq_true rfl)⟩ rfl rfl (Nat.le_of_ble_eq_true rfl) rfl rfl rfl (Nat.le_of_ble_eq_true rfl) rfl ?_
  rw [zb_f hm]
  refine zi_if_ne O 11 d_Dia_pushDart_6 (by decide) (fun c6 => ?_) (fun c6 => ?_)
  · exact absurd rfl c6
  · refine zi_iconstN O 0 d_Dia_pushDart_9 (by decide) ?_
    refine zi_zret O d_Dia_pushDart_10 rfl (Nat.le_of_ble_eq_true rfl) (Nat.le_of_ble_eq_true rfl) (Nat.le_of_ble_eq_true rfl) ?_
    exact ⟨rfl, rfl⟩
set_option maxHeartbeats 2000000 in
theorem m_Dia_pushDart_000 (hD : Dia n lab S ci el fr to_ at_ oc h) (a b : Nat) (ha : a < 4 * n) (hb : b < 4 * n) (hn : n ≤ 18) (hax : a % 2 = 1) (hay : b % 2 = 1) (hm : oc (ca fr to_ a) ≠ oc (ca fr to_ b) ∨ (FF (nxD fr to_ at_) (4 * n) (4 * n)).1 a = (FF (nxD fr to_ at_) (4 * n) (4 * n)).1 b) (u v w z : Nat) (hu : u = fN el 0 (2 * n)) (hv : v = fN el u (2 * n)) (hw : w = fN el v (2 * n)) (hzz : z = fN el w (2 * n)) : zMet y_Dia_pushDart b_Dia_pushDart 9 (some .boolean) ⟨6, 2, 6, 170⟩ [.ref 0, .int (nI a), .int (nI b), .int (bI false)] h
    (fun r h' => r = some (.int (nI 1)) ∧ ChQ (n + 1 + 1) (phL false false false (va_up (va_up lab (to_ (a / 2)) v) (to_ (b / 2)) z) n (el (a / 2)) u v (el (b / 2)) w z) (upd (upd S n (phS false false false)) (n + 1) (-phS false false false)) ci h') := by
  have hD' := hD
  obtain ⟨L, PL, LB, FR, TO, AT, OF, RD, ST, OC, CE, SL, rfl, hR, hG, hz, hE, hA, hRd, hO, hP, hOF⟩ := hD
  have b1 := fN_le el 0 (2 * n)
  have b2 := fN_le el u (2 * n)
  have b3 := fN_le el v (2 * n)
  have b4 := fN_le el w (2 * n)
  rw [← hu] at b1
  rw [← hv] at b2
  rw [← hw] at b3
  rw [← hzz] at b4
  have e1 := (fa_el hR hE hA (a := 0) (by omega)).trans hu.symm
  have e2 := (fa_el hR hE hA (a := u) (by omega)).trans hv.symm
  have e3 := (fa_el hR hE hA (a := v) (by omega)).trans hw.symm
  have e4 := (fa_el hR hE hA (a := w) (by omega)).trans hzz.symm
  have x1 := el_ok hR hE (e := a / 2) (by omega)
  have y1 := el_ok hR hE (e := b / 2) (by omega)
  have gu : 1 ≤ u ∧ u ≤ 9999 := by omega
  have gv : 1 ≤ v ∧ v ≤ 9999 := by omega
  have gw : 1 ≤ w ∧ w ≤ 9999 := by omega
  have gz : 1 ≤ z ∧ z ≤ 9999 := by omega
  have hR2 := rowOK_up (rowOK_up hR (to_ (a / 2)) v (by omega)) (to_ (b / 2)) z (by omega)
  refine zMet_of (plainFor_of_name (by decide +kernel)) rfl (Nat.le_of_ble_eq_true rfl) (fun z1 z2 z3 z4 z5 z6 z7 z8 z9 z10 z11 z12 z13 z14 O hin => ?_)
  refine zi_ls (ls' := [some (.ref 0), some (.int (nI a)), some (.int (nI b)), some (.int (bI false)), none, none, none, none, none]) rfl ?_
  refine zi_aload_n O d_Dia_pushDart_0 rfl ?_
  refine zi_iload_n O d_Dia_pushDart_1 rfl ?_
  refine zi_iload_n O d_Dia_pushDart_2 rfl ?_
  refine zi_selfP O c_Dia_177 k_Dia_canMeet (m_Dia_canMeet hD' a b ha hb) d_Dia_pushDart_3 ⟨(Nat.le_of_ble_eq_true rfl), (Nat.le_of_ble_eq_true rfl)⟩ ⟨(Nat.le_of_ble_eq_true rfl), (Nat.le_of_ble_eq_true rfl)⟩ rfl rfl (Nat.le_of_ble_eq_true rfl) rfl rfl rfl (Nat.le_of_ble_eq_true rfl) rfl ?_
  rw [zb_t hm]
  refine zi_if_ne O 11 d_Dia_pushDart_6 (by decide) (fun c6 => ?_) (fun c6 => ?_)
  rotate_left
  · exact absurd c6 (by decide)
  refine zi_iload_n O d_Dia_pushDart_11 rfl ?_
  refine zi_iconstN O 1 d_Dia_pushDart_12 (by decide) ?_
  first | refine zi_iandN O 1 1 d_Dia_pushDart_13 (by decide) (by omega) ?_ | refine zi_iandN O 3 2 d_Dia_pushDart_13 (by decide) (by omega) ?_ | refine zi_iand O d_Dia_pushDart_13 ?_
  rw [show a % 2 ^ 1 = 1 from hax]
  refine zi_if_ne O 21 d_Dia_pushDart_14 (by decide) (fun c14 => ?_) (fun c14 => ?_)
  rotate_left
  · exact absurd c14 (by decide)
  refine zi_iconstN O 0 d_Dia_pushDart_21 (by decide) ?_
  refine zi_istore (ls' := _ :: _ :: _ :: _ :: some _ :: _) O d_Dia_pushDart_22 rfl (by decide) rfl ?_
  refine zi_iload_n O d_Dia_pushDart_24 rfl ?_
  refine zi_iconstN O 1 d_Dia_pushDart_25 (by decide) ?_
  first | refine zi_iandN O 1 1 d_Dia_pushDart_26 (by decide) (by omega) ?_ | refine zi_iandN O 3 2 d_Dia_pushDart_26 (by decide) (by omega) ?_ | refine zi_iand O d_Dia_pushDart_26 ?_
  rw [show b % 2 ^ 1 = 1 from hay]
  refine zi_if_ne O 34 d_Dia_pushDart_27 (by decide) (fun c27 => ?_) (fun c27 => ?_)
  rotate_left
  · exact absurd c27 (by decide)
  refine zi_iconstN O 0 d_Dia_pushDart_34 (by decide) ?_
  refine zi_istore (ls' := _ :: _ :: _ :: _ :: _ :: some _ :: _) O d_Dia_pushDart_35 rfl (by decide) rfl ?_
  refine zi_aload_n O d_Dia_pushDart_37 rfl ?_
  refine zi_iload_n O d_Dia_pushDart_38 rfl ?_
  refine zi_iconstN O 1 d_Dia_pushDart_39 (by decide) ?_
  first | refine zi_ishrN O 2 2 d_Dia_pushDart_40 (by decide) (by omega) ?_ | refine zi_ishrN O 1 1 d_Dia_pushDart_40 (by decide) (by omega) ?_
  refine zi_iconstN O 0 d_Dia_pushDart_41 (by decide) ?_
  refine zi_selfV O c_Dia_158 k_Dia_cutEdge (m_Dia_cutEdge (by omega) hE hA (a / 2 ^ 1) 0 (by omega)) d_Dia_pushDart_42 ⟨(Nat.le_of_ble_eq_true rfl), (Nat.le_of_ble_eq_true rfl)⟩ ⟨(Nat.le_of_ble_eq_true rfl), (Nat.le_of_ble_eq_true rfl)⟩ rfl rfl (Nat.le_of_ble_eq_true rfl) rfl rfl rfl (Nat.le_of_ble_eq_true rfl) rfl (fun r h' hq hl => ?_)
  obtain ⟨rfl, rfl⟩ := hq
  rw [e1, e2]
  refine zi_st (st' := [.ref 18]) rfl ?_
  refine zi_astore (ls' := _ :: _ :: _ :: _ :: _ :: _ :: some _ :: _) O d_Dia_pushDart_45 rfl (by decide) rfl ?_
  refine zi_aload_n O d_Dia_pushDart_47 rfl ?_
  refine zi_iload_n O d_Dia_pushDart_48 rfl ?_
  refine zi_iconstN O 1 d_Dia_pushDart_49 (by decide) ?_
  first | refine zi_ishrN O 2 2 d_Dia_pushDart_50 (by decide) (by omega) ?_ | refine zi_ishrN O 1 1 d_Dia_pushDart_50 (by decide) (by omega) ?_
  refine zi_aload O d_Dia_pushDart_51 rfl ?_
  refine zi_get O f_Dia_180 d_Dia_pushDart_53 rfl rfl ?_
  refine zi_preV O (diaH ci n (upd L (to_ (a / 2)) (nI v)) S (2 * n) PL LB FR TO AT (FF (nxD fr to_ at_) (4 * n) (4 * n)).2 OF RD ST (rc oc n) (FF (nxE to_ at_) (2 * n) (2 * n)).2 OC CE SL) [cutC (nI (el (a / 2))) (nI u) (nI v)] rfl c_Dia_158 k_Dia_cutEdge (m_Dia_cutEdge (by omega) hE hA (b / 2 ^ 1) v (by omega)) d_Dia_pushDart_56 ⟨(Nat.le_of_ble_eq_true rfl), (Nat.le_of_ble_eq_true rfl)⟩ ⟨(Nat.le_of_ble_eq_true rfl), (Nat.le_of_ble_eq_true rfl)⟩ rfl rfl (Nat.le_of_ble_eq_true rfl) rfl rfl rfl (Nat.le_of_ble_eq_true rfl) rfl rfl (fun r h' hq => ?_) rfl (fun r h' hq hl => ?_)
  · obtain ⟨rfl, rfl⟩ := hq
    exact ⟨rfl, rfl⟩
  obtain ⟨rfl, rfl⟩ := hq
  rw [e3, e4]
  refine zi_st (st' := [.ref 19]) rfl (zi_h (h' := diaH ci n (upd (upd L (to_ (a / 2)) (nI v)) (to_ (b / 2)) (nI z)) S (2 * n) PL LB FR TO AT (FF (nxD fr to_ at_) (4 * n) (4 * n)).2 OF RD ST (rc oc n) (FF (nxE to_ at_) (2 * n) (2 * n)).2 OC CE SL ++ [cutC (nI (el (a / 2))) (nI u) (nI v), cutC (nI (el (b / 2))) (nI w) (nI z)]) rfl ?_)
  refine zi_astore (ls' := _ :: _ :: _ :: _ :: _ :: _ :: _ :: some _ :: _) O d_Dia_pushDart_59 rfl (by decide) rfl ?_
  refine zi_iload_n O d_Dia_pushDart_61 rfl ?_
  refine zi_iload O d_Dia_pushDart_62 rfl ?_
  refine zi_iload O d_Dia_pushDart_64 rfl ?_
  refine zi_icmp_ne O 73 d_Dia_pushDart_66 (by decide) (fun c66 => ?_) (fun c66 => ?_)
  · exact absurd rfl c66
  refine zi_iconstN O 1 d_Dia_pushDart_69 (by decide) ?_
  refine zi_goto O 74 d_Dia_pushDart_70 (by decide) ?_
  refine zi_icmp_ne O 81 d_Dia_pushDart_74 (by decide) (fun c74 => ?_) (fun c74 => ?_)
  rotate_left
  · exact absurd c74 (by decide)
  refine zi_iconst (v := -1) O d_Dia_pushDart_81 (by decide) ?_
  refine zi_istore (ls' := _ :: _ :: _ :: _ :: _ :: _ :: _ :: _ :: some _ :: _) O d_Dia_pushDart_82 rfl (by decide) rfl ?_
  refine zi_iload_n O d_Dia_pushDart_84 rfl ?_
  refine zi_if_eq O 136 d_Dia_pushDart_85 (by decide) (fun c85 => ?_) (fun c85 => ?_)
  rotate_left
  · exact absurd rfl c85
  refine zi_aload_n O d_Dia_pushDart_136 rfl ?_
  refine zi_iload O d_Dia_pushDart_137 rfl ?_
  refine zi_aload O d_Dia_pushDart_139 rfl ?_
  refine zi_iload O d_Dia_pushDart_141 rfl ?_
  refine zi_if_ne O 150 d_Dia_pushDart_143 (by decide) (fun c143 => ?_) (fun c143 => ?_)
  · exact absurd rfl c143
  refine zi_iconstN O 1 d_Dia_pushDart_146 (by decide) ?_
  refine zi_goto O 151 d_Dia_pushDart_147 (by decide) ?_
  refine zi_aload O d_Dia_pushDart_151 rfl ?_
  refine zi_iload O d_Dia_pushDart_153 rfl ?_
  refine zi_selfV O c_Dia_162 k_Dia_addCrossing (m_Dia_addCrossing_2 (by omega) (-1) (bI true) (bI false) (nI (el (b / 2))) (nI w) (nI z) (nI (el (a / 2))) (nI u) (nI v)) d_Dia_pushDart_155 ⟨(Nat.le_of_ble_eq_true rfl), (Nat.le_of_ble_eq_true rfl)⟩ ⟨(Nat.le_of_ble_eq_true rfl), (Nat.le_of_ble_eq_true rfl)⟩ rfl rfl (Nat.le_of_ble_eq_true rfl) rfl rfl rfl (Nat.le_of_ble_eq_true rfl) rfl (fun r h' hq hl => ?_)
  obtain ⟨rfl, rfl⟩ := hq
  refine zi_st (st' := []) rfl ?_
  refine zi_aload_n O d_Dia_pushDart_158 rfl ?_
  refine zi_iload O d_Dia_pushDart_159 rfl ?_
  refine zi_ineg O d_Dia_pushDart_161 ?_
  refine zi_aload O d_Dia_pushDart_162 rfl ?_
  refine zi_iload O d_Dia_pushDart_164 rfl ?_
  refine zi_aload O d_Dia_pushDart_166 rfl ?_
  refine zi_iload O d_Dia_pushDart_168 rfl ?_
  refine zi_if_ne O 177 d_Dia_pushDart_170 (by decide) (fun c170 => ?_) (fun c170 => ?_)
  · exact absurd rfl c170
  refine zi_iconstN O 1 d_Dia_pushDart_173 (by decide) ?_
  refine zi_goto O 178 d_Dia_pushDart_174 (by decide) ?_
  refine zi_selfV O c_Dia_162 k_Dia_addCrossing (m_Dia_addCrossing_2 (by omega) (-(-1)) (bI false) (bI true) (nI (el (b / 2))) (nI w) (nI z) (nI (el (a / 2))) (nI u) (nI v)) d_Dia_pushDart_178 ⟨(Nat.le_of_ble_eq_true rfl), (Nat.le_of_ble_eq_true rfl)⟩ ⟨(Nat.le_of_ble_eq_true rfl), (Nat.le_of_ble_eq_true rfl)⟩ rfl rfl (Nat.le_of_ble_eq_true rfl) rfl rfl rfl (Nat.le_of_ble_eq_true rfl) rfl (fun r h' hq hl => ?_)
  obtain ⟨rfl, rfl⟩ := hq
  refine zi_st (st' := []) rfl ?_
  refine zi_no 6 (ls' := _ :: _ :: _ :: _ :: _ :: _ :: none :: _) rfl ?_
  refine zi_no 7 (ls' := _ :: _ :: _ :: _ :: _ :: _ :: _ :: none :: _) rfl ?_
  refine zi_drop 18 ?_
  have hrow := rowOK_cr (rowOK_cr hR2 (by omega) (-1) true false y1 gw gz x1 gu gv) (by omega) (-(-1)) false true y1 gw gz x1 gu gv
  have hD2 : Dr (n + 1 + 1) (phL false false false (va_up (va_up lab (to_ (a / 2)) v) (to_ (b / 2)) z) n (el (a / 2)) u v (el (b / 2)) w z) (upd (upd S n (-1)) (n + 1) (-(-1))) ci (diaH ci (n + 1 + 1) _ (upd (upd S n (-1)) (n + 1) (-(-1))) (2 * n) PL LB FR TO AT (FF (nxD fr to_ at_) (4 * n) (4 * n)).2 OF RD ST (rc oc n) (FF (nxE to_ at_) (2 * n) (2 * n)).2 OC CE SL) := ⟨_, _, _, _, _, _, _, _, _, _, _, _, _, _, _, _, rfl, hrow, sg_add (sg_add hG (by decide)) (by decide), hz⟩
  refine zi_h (h' := diaH ci (n + 1 + 1) _ (upd (upd S n (-1)) (n + 1) (-(-1))) (2 * n) PL LB FR TO AT (FF (nxD fr to_ at_) (4 * n) (4 * n)).2 OF RD ST (rc oc n) (FF (nxE to_ at_) (2 * n) (2 * n)).2 OC CE SL) rfl ?_
  refine zi_aload_n O d_Dia_pushDart_181 rfl ?_
  refine zi_selfV O c_Dia_104 k_Dia_chart (m_Dia_chart2 hD2) d_Dia_pushDart_182 ⟨(Nat.le_of_ble_eq_true rfl), (Nat.le_of_ble_eq_true rfl)⟩ ⟨(Nat.le_of_ble_eq_true rfl), (Nat.le_of_ble_eq_true rfl)⟩ rfl rfl (Nat.le_of_ble_eq_true rfl) rfl rfl rfl (Nat.le_of_ble_eq_true rfl) rfl (fun r h' hq hl => ?_)
  obtain ⟨⟨x, rfl⟩, hC⟩ := hq
  obtain ⟨L, m, PL, LB, FR, TO, AT, F, OF, RD, ST, pc, co, OC, CE, SL, rfl⟩ := dr_form (chq_dr hC)
  refine zi_st (st' := [.int x]) rfl ?_
  refine zi_pop O d_Dia_pushDart_185 rfl ?_
  refine zi_iconstN O 1 d_Dia_pushDart_186 (by decide) ?_
  refine zi_zret O d_Dia_pushDart_187 rfl (Nat.le_of_ble_eq_true rfl) (Nat.le_of_ble_eq_true rfl) (Nat.le_of_ble_eq_true rfl) ?_
  exact ⟨rfl, hC⟩
set_option maxHeartbeats 2000000 in
theorem m_Dia_pushDart_001 (hD : Dia n lab S ci el fr to_ at_ oc h) (a b : Nat) (ha : a < 4 * n) (hb : b < 4 * n) (hn : n ≤ 18) (hax : a % 2 = 1) (hay : b % 2 = 0) (hm : oc (ca fr to_ a) ≠ oc (ca fr to_ b) ∨ (FF (nxD fr to_ at_) (4 * n) (4 * n)).1 a = (FF (nxD fr to_ at_) (4 * n) (4 * n)).1 b) (u v w z : Nat) (hu : u = fN el 0 (2 * n)) (hv : v = fN el u (2 * n)) (hw : w = fN el v (2 * n)) (hzz : z = fN el w (2 * n)) : zMet y_Dia_pushDart b_Dia_pushDart 9 (some .boolean) ⟨6, 2, 6, 170⟩ [.ref 0, .int (nI a), .int (nI b), .int (bI false)] h
    (fun r h' => r = some (.int (nI 1)) ∧ ChQ (n + 1 + 1) (phL false false true (va_up (va_up lab (to_ (a / 2)) v) (to_ (b / 2)) z) n (el (a / 2)) u v (el (b / 2)) w z) (upd (upd S n (phS false false true)) (n + 1) (-phS false false true)) ci h') := by
  have hD' := hD
  obtain ⟨L, PL, LB, FR, TO, AT, OF, RD, ST, OC, CE, SL, rfl, hR, hG, hz, hE, hA, hRd, hO, hP, hOF⟩ := hD
  have b1 := fN_le el 0 (2 * n)
  have b2 := fN_le el u (2 * n)
  have b3 := fN_le el v (2 * n)
  have b4 := fN_le el w (2 * n)
  rw [← hu] at b1
  rw [← hv] at b2
  rw [← hw] at b3
  rw [← hzz] at b4
  have e1 := (fa_el hR hE hA (a := 0) (by omega)).trans hu.symm
  have e2 := (fa_el hR hE hA (a := u) (by omega)).trans hv.symm
  have e3 := (fa_el hR hE hA (a := v) (by omega)).trans hw.symm
  have e4 := (fa_el hR hE hA (a := w) (by omega)).trans hzz.symm
  have x1 := el_ok hR hE (e := a / 2) (by omega)
  have y1 := el_ok hR hE (e := b / 2) (by omega)
  have gu : 1 ≤ u ∧ u ≤ 9999 := by omega
  have gv : 1 ≤ v ∧ v ≤ 9999 := by omega
  have gw : 1 ≤ w ∧ w ≤ 9999 := by omega
  have gz : 1 ≤ z ∧ z ≤ 9999 := by omega
  have hR2 := rowOK_up (rowOK_up hR (to_ (a / 2)) v (by omega)) (to_ (b / 2)) z (by omega)
  refine zMet_of (plainFor_of_name (by decide +kernel)) rfl (Nat.le_of_ble_eq_true rfl) (fun z1 z2 z3 z4 z5 z6 z7 z8 z9 z10 z11 z12 z13 z14 O hin => ?_)
  refine zi_ls (ls' := [some (.ref 0), some (.int (nI a)), some (.int (nI b)), some (.int (bI false)), none, none, none, none, none]) rfl ?_
  refine zi_aload_n O d_Dia_pushDart_0 rfl ?_
  refine zi_iload_n O d_Dia_pushDart_1 rfl ?_
  refine zi_iload_n O d_Dia_pushDart_2 rfl ?_
  refine zi_selfP O c_Dia_177 k_Dia_canMeet (m_Dia_canMeet hD' a b ha hb) d_Dia_pushDart_3 ⟨(Nat.le_of_ble_eq_true rfl), (Nat.le_of_ble_eq_true rfl)⟩ ⟨(Nat.le_of_ble_eq_true rfl), (Nat.le_of_ble_eq_true rfl)⟩ rfl rfl (Nat.le_of_ble_eq_true rfl) rfl rfl rfl (Nat.le_of_ble_eq_true rfl) rfl ?_
  rw [zb_t hm]
  refine zi_if_ne O 11 d_Dia_pushDart_6 (by decide) (fun c6 => ?_) (fun c6 => ?_)
  rotate_left
  · exact absurd c6 (by decide)
  refine zi_iload_n O d_Dia_pushDart_11 rfl ?_
  refine zi_iconstN O 1 d_Dia_pushDart_12 (by decide) ?_
  first | refine zi_iandN O 1 1 d_Dia_pushDart_13 (by decide) (by omega) ?_ | refine zi_iandN O 3 2 d_Dia_pushDart_13 (by decide) (by omega) ?_ | refine zi_iand O d_Dia_pushDart_13 ?_
  rw [show a % 2 ^ 1 = 1 from hax]
  refine zi_if_ne O 21 d_Dia_pushDart_14 (by decide) (fun c14 => ?_) (fun c14 => ?_)
  rotate_left
  · exact absurd c14 (by decide)
  refine zi_iconstN O 0 d_Dia_pushDart_21 (by decide) ?_
  refine zi_istore (ls' := _ :: _ :: _ :: _ :: some _ :: _) O d_Dia_pushDart_22 rfl (by decide) rfl ?_
  refine zi_iload_n O d_Dia_pushDart_24 rfl ?_
  refine zi_iconstN O 1 d_Dia_pushDart_25 (by decide) ?_
  first | refine zi_iandN O 1 1 d_Dia_pushDart_26 (by decide) (by omega) ?_ | refine zi_iandN O 3 2 d_Dia_pushDart_26 (by decide) (by omega) ?_ | refine zi_iand O d_Dia_pushDart_26 ?_
  rw [show b % 2 ^ 1 = 0 from hay]
  refine zi_if_ne O 34 d_Dia_pushDart_27 (by decide) (fun c27 => ?_) (fun c27 => ?_)
  · exact absurd rfl c27
  refine zi_iconstN O 1 d_Dia_pushDart_30 (by decide) ?_
  refine zi_goto O 35 d_Dia_pushDart_31 (by decide) ?_
  refine zi_istore (ls' := _ :: _ :: _ :: _ :: _ :: some _ :: _) O d_Dia_pushDart_35 rfl (by decide) rfl ?_
  refine zi_aload_n O d_Dia_pushDart_37 rfl ?_
  refine zi_iload_n O d_Dia_pushDart_38 rfl ?_
  refine zi_iconstN O 1 d_Dia_pushDart_39 (by decide) ?_
  first | refine zi_ishrN O 2 2 d_Dia_pushDart_40 (by decide) (by omega) ?_ | refine zi_ishrN O 1 1 d_Dia_pushDart_40 (by decide) (by omega) ?_
  refine zi_iconstN O 0 d_Dia_pushDart_41 (by decide) ?_
  refine zi_selfV O c_Dia_158 k_Dia_cutEdge (m_Dia_cutEdge (by omega) hE hA (a / 2 ^ 1) 0 (by omega)) d_Dia_pushDart_42 ⟨(Nat.le_of_ble_eq_true rfl), (Nat.le_of_ble_eq_true rfl)⟩ ⟨(Nat.le_of_ble_eq_true rfl), (Nat.le_of_ble_eq_true rfl)⟩ rfl rfl (Nat.le_of_ble_eq_true rfl) rfl rfl rfl (Nat.le_of_ble_eq_true rfl) rfl (fun r h' hq hl => ?_)
  obtain ⟨rfl, rfl⟩ := hq
  rw [e1, e2]
  refine zi_st (st' := [.ref 18]) rfl ?_
  refine zi_astore (ls' := _ :: _ :: _ :: _ :: _ :: _ :: some _ :: _) O d_Dia_pushDart_45 rfl (by decide) rfl ?_
  refine zi_aload_n O d_Dia_pushDart_47 rfl ?_
  refine zi_iload_n O d_Dia_pushDart_48 rfl ?_
  refine zi_iconstN O 1 d_Dia_pushDart_49 (by decide) ?_
  first | refine zi_ishrN O 2 2 d_Dia_pushDart_50 (by decide) (by omega) ?_ | refine zi_ishrN O 1 1 d_Dia_pushDart_50 (by decide) (by omega) ?_
  refine zi_aload O d_Dia_pushDart_51 rfl ?_
  refine zi_get O f_Dia_180 d_Dia_pushDart_53 rfl rfl ?_
  refine zi_preV O (diaH ci n (upd L (to_ (a / 2)) (nI v)) S (2 * n) PL LB FR TO AT (FF (nxD fr to_ at_) (4 * n) (4 * n)).2 OF RD ST (rc oc n) (FF (nxE to_ at_) (2 * n) (2 * n)).2 OC CE SL) [cutC (nI (el (a / 2))) (nI u) (nI v)] rfl c_Dia_158 k_Dia_cutEdge (m_Dia_cutEdge (by omega) hE hA (b / 2 ^ 1) v (by omega)) d_Dia_pushDart_56 ⟨(Nat.le_of_ble_eq_true rfl), (Nat.le_of_ble_eq_true rfl)⟩ ⟨(Nat.le_of_ble_eq_true rfl), (Nat.le_of_ble_eq_true rfl)⟩ rfl rfl (Nat.le_of_ble_eq_true rfl) rfl rfl rfl (Nat.le_of_ble_eq_true rfl) rfl rfl (fun r h' hq => ?_) rfl (fun r h' hq hl => ?_)
  · obtain ⟨rfl, rfl⟩ := hq
    exact ⟨rfl, rfl⟩
  obtain ⟨rfl, rfl⟩ := hq
  rw [e3, e4]
  refine zi_st (st' := [.ref 19]) rfl (zi_h (h' := diaH ci n (upd (upd L (to_ (a / 2)) (nI v)) (to_ (b / 2)) (nI z)) S (2 * n) PL LB FR TO AT (FF (nxD fr to_ at_) (4 * n) (4 * n)).2 OF RD ST (rc oc n) (FF (nxE to_ at_) (2 * n) (2 * n)).2 OC CE SL ++ [cutC (nI (el (a / 2))) (nI u) (nI v), cutC (nI (el (b / 2))) (nI w) (nI z)]) rfl ?_)
  refine zi_astore (ls' := _ :: _ :: _ :: _ :: _ :: _ :: _ :: some _ :: _) O d_Dia_pushDart_59 rfl (by decide) rfl ?_
  refine zi_iload_n O d_Dia_pushDart_61 rfl ?_
  refine zi_iload O d_Dia_pushDart_62 rfl ?_
  refine zi_iload O d_Dia_pushDart_64 rfl ?_
  refine zi_icmp_ne O 73 d_Dia_pushDart_66 (by decide) (fun c66 => ?_) (fun c66 => ?_)
  rotate_left
  · exact absurd c66 (by decide)
  refine zi_iconstN O 0 d_Dia_pushDart_73 (by decide) ?_
  refine zi_icmp_ne O 81 d_Dia_pushDart_74 (by decide) (fun c74 => ?_) (fun c74 => ?_)
  · exact absurd rfl c74
  refine zi_iconstN O 1 d_Dia_pushDart_77 (by decide) ?_
  refine zi_goto O 82 d_Dia_pushDart_78 (by decide) ?_
  refine zi_istore (ls' := _ :: _ :: _ :: _ :: _ :: _ :: _ :: _ :: some _ :: _) O d_Dia_pushDart_82 rfl (by decide) rfl ?_
  refine zi_iload_n O d_Dia_pushDart_84 rfl ?_
  refine zi_if_eq O 136 d_Dia_pushDart_85 (by decide) (fun c85 => ?_) (fun c85 => ?_)
  rotate_left
  · exact absurd rfl c85
  refine zi_aload_n O d_Dia_pushDart_136 rfl ?_
  refine zi_iload O d_Dia_pushDart_137 rfl ?_
  refine zi_aload O d_Dia_pushDart_139 rfl ?_
  refine zi_iload O d_Dia_pushDart_141 rfl ?_
  refine zi_if_ne O 150 d_Dia_pushDart_143 (by decide) (fun c143 => ?_) (fun c143 => ?_)
  rotate_left
  · exact absurd c143 (by decide)
  refine zi_iconstN O 0 d_Dia_pushDart_150 (by decide) ?_
  refine zi_aload O d_Dia_pushDart_151 rfl ?_
  refine zi_iload O d_Dia_pushDart_153 rfl ?_
  refine zi_selfV O c_Dia_162 k_Dia_addCrossing (m_Dia_addCrossing_2 (by omega) (nI 1) (bI false) (bI false) (nI (el (b / 2))) (nI w) (nI z) (nI (el (a / 2))) (nI u) (nI v)) d_Dia_pushDart_155 ⟨(Nat.le_of_ble_eq_true rfl), (Nat.le_of_ble_eq_true rfl)⟩ ⟨(Nat.le_of_ble_eq_true rfl), (Nat.le_of_ble_eq_true rfl)⟩ rfl rfl (Nat.le_of_ble_eq_true rfl) rfl rfl rfl (Nat.le_of_ble_eq_true rfl) rfl (fun r h' hq hl => ?_)
  obtain ⟨rfl, rfl⟩ := hq
  refine zi_st (st' := []) rfl ?_
  refine zi_aload_n O d_Dia_pushDart_158 rfl ?_
  refine zi_iload O d_Dia_pushDart_159 rfl ?_
  refine zi_ineg O d_Dia_pushDart_161 ?_
  refine zi_aload O d_Dia_pushDart_162 rfl ?_
  refine zi_iload O d_Dia_pushDart_164 rfl ?_
  refine zi_aload O d_Dia_pushDart_166 rfl ?_
  refine zi_iload O d_Dia_pushDart_168 rfl ?_
  refine zi_if_ne O 177 d_Dia_pushDart_170 (by decide) (fun c170 => ?_) (fun c170 => ?_)
  · exact absurd rfl c170
  refine zi_iconstN O 1 d_Dia_pushDart_173 (by decide) ?_
  refine zi_goto O 178 d_Dia_pushDart_174 (by decide) ?_
  refine zi_selfV O c_Dia_162 k_Dia_addCrossing (m_Dia_addCrossing_2 (by omega) (-(nI 1)) (bI true) (bI true) (nI (el (b / 2))) (nI w) (nI z) (nI (el (a / 2))) (nI u) (nI v)) d_Dia_pushDart_178 ⟨(Nat.le_of_ble_eq_true rfl), (Nat.le_of_ble_eq_true rfl)⟩ ⟨(Nat.le_of_ble_eq_true rfl), (Nat.le_of_ble_eq_true rfl)⟩ rfl rfl (Nat.le_of_ble_eq_true rfl) rfl rfl rfl (Nat.le_of_ble_eq_true rfl) rfl (fun r h' hq hl => ?_)
  obtain ⟨rfl, rfl⟩ := hq
  refine zi_st (st' := []) rfl ?_
  refine zi_no 6 (ls' := _ :: _ :: _ :: _ :: _ :: _ :: none :: _) rfl ?_
  refine zi_no 7 (ls' := _ :: _ :: _ :: _ :: _ :: _ :: _ :: none :: _) rfl ?_
  refine zi_drop 18 ?_
  have hrow := rowOK_cr (rowOK_cr hR2 (by omega) (nI 1) false false y1 gw gz x1 gu gv) (by omega) (-(nI 1)) true true y1 gw gz x1 gu gv
  have hD2 : Dr (n + 1 + 1) (phL false false true (va_up (va_up lab (to_ (a / 2)) v) (to_ (b / 2)) z) n (el (a / 2)) u v (el (b / 2)) w z) (upd (upd S n (nI 1)) (n + 1) (-(nI 1))) ci (diaH ci (n + 1 + 1) _ (upd (upd S n (nI 1)) (n + 1) (-(nI 1))) (2 * n) PL LB FR TO AT (FF (nxD fr to_ at_) (4 * n) (4 * n)).2 OF RD ST (rc oc n) (FF (nxE to_ at_) (2 * n) (2 * n)).2 OC CE SL) := ⟨_, _, _, _, _, _, _, _, _, _, _, _, _, _, _, _, rfl, hrow, sg_add (sg_add hG (by decide)) (by decide), hz⟩
  refine zi_h (h' := diaH ci (n + 1 + 1) _ (upd (upd S n (nI 1)) (n + 1) (-(nI 1))) (2 * n) PL LB FR TO AT (FF (nxD fr to_ at_) (4 * n) (4 * n)).2 OF RD ST (rc oc n) (FF (nxE to_ at_) (2 * n) (2 * n)).2 OC CE SL) rfl ?_
  refine zi_aload_n O d_Dia_pushDart_181 rfl ?_
  refine zi_selfV O c_Dia_104 k_Dia_chart (m_Dia_chart2 hD2) d_Dia_pushDart_182 ⟨(Nat.le_of_ble_eq_true rfl), (Nat.le_of_ble_eq_true rfl)⟩ ⟨(Nat.le_of_ble_eq_true rfl), (Nat.le_of_ble_eq_true rfl)⟩ rfl rfl (Nat.le_of_ble_eq_true rfl) rfl rfl rfl (Nat.le_of_ble_eq_true rfl) rfl (fun r h' hq hl => ?_)
  obtain ⟨⟨x, rfl⟩, hC⟩ := hq
  obtain ⟨L, m, PL, LB, FR, TO, AT, F, OF, RD, ST, pc, co, OC, CE, SL, rfl⟩ := dr_form (chq_dr hC)
  refine zi_st (st' := [.int x]) rfl ?_
  refine zi_pop O d_Dia_pushDart_185 rfl ?_
  refine zi_iconstN O 1 d_Dia_pushDart_186 (by decide) ?_
  refine zi_zret O d_Dia_pushDart_187 rfl (Nat.le_of_ble_eq_true rfl) (Nat.le_of_ble_eq_true rfl) (Nat.le_of_ble_eq_true rfl) ?_
  exact ⟨rfl, hC⟩
set_option maxHeartbeats 2000000 in
theorem m_Dia_pushDart_010 (hD : Dia n lab S ci el fr to_ at_ oc h) (a b : Nat) (ha : a < 4 * n) (hb : b < 4 * n) (hn : n ≤ 18) (hax : a % 2 = 0) (hay : b % 2 = 1) (hm : oc (ca fr to_ a) ≠ oc (ca fr to_ b) ∨ (FF (nxD fr to_ at_) (4 * n) (4 * n)).1 a = (FF (nxD fr to_ at_) (4 * n) (4 * n)).1 b) (u v w z : Nat) (hu : u = fN el 0 (2 * n)) (hv : v = fN el u (2 * n)) (hw : w = fN el v (2 * n)) (hzz : z = fN el w (2 * n)) : zMet y_Dia_pushDart b_Dia_pushDart 9 (some .boolean) ⟨6, 2, 6, 170⟩ [.ref 0, .int (nI a), .int (nI b), .int (bI false)] h
    (fun r h' => r = some (.int (nI 1)) ∧ ChQ (n + 1 + 1) (phL false true false (va_up (va_up lab (to_ (a / 2)) v) (to_ (b / 2)) z) n (el (a / 2)) u v (el (b / 2)) w z) (upd (upd S n (phS false true false)) (n + 1) (-phS false true false)) ci h') := by
  have hD' := hD
  obtain ⟨L, PL, LB, FR, TO, AT, OF, RD, ST, OC, CE, SL, rfl, hR, hG, hz, hE, hA, hRd, hO, hP, hOF⟩ := hD
  have b1 := fN_le el 0 (2 * n)
  have b2 := fN_le el u (2 * n)
  have b3 := fN_le el v (2 * n)
  have b4 := fN_le el w (2 * n)
  rw [← hu] at b1
  rw [← hv] at b2
  rw [← hw] at b3
  rw [← hzz] at b4
  have e1 := (fa_el hR hE hA (a := 0) (by omega)).trans hu.symm
  have e2 := (fa_el hR hE hA (a := u) (by omega)).trans hv.symm
  have e3 := (fa_el hR hE hA (a := v) (by omega)).trans hw.symm
  have e4 := (fa_el hR hE hA (a := w) (by omega)).trans hzz.symm
  have x1 := el_ok hR hE (e := a / 2) (by omega)
  have y1 := el_ok hR hE (e := b / 2) (by omega)
  have gu : 1 ≤ u ∧ u ≤ 9999 := by omega
  have gv : 1 ≤ v ∧ v ≤ 9999 := by omega
  have gw : 1 ≤ w ∧ w ≤ 9999 := by omega
  have gz : 1 ≤ z ∧ z ≤ 9999 := by omega
  have hR2 := rowOK_up (rowOK_up hR (to_ (a / 2)) v (by omega)) (to_ (b / 2)) z (by omega)
  refine zMet_of (plainFor_of_name (by decide +kernel)) rfl (Nat.le_of_ble_eq_true rfl) (fun z1 z2 z3 z4 z5 z6 z7 z8 z9 z10 z11 z12 z13 z14 O hin => ?_)
  refine zi_ls (ls' := [some (.ref 0), some (.int (nI a)), some (.int (nI b)), some (.int (bI false)), none, none, none, none, none]) rfl ?_
  refine zi_aload_n O d_Dia_pushDart_0 rfl ?_
  refine zi_iload_n O d_Dia_pushDart_1 rfl ?_
  refine zi_iload_n O d_Dia_pushDart_2 rfl ?_
  refine zi_selfP O c_Dia_177 k_Dia_canMeet (m_Dia_canMeet hD' a b ha hb) d_Dia_pushDart_3 ⟨(Nat.le_of_ble_eq_true rfl), (Nat.le_of_ble_eq_true rfl)⟩ ⟨(Nat.le_of_ble_eq_true rfl), (Nat.le_of_ble_eq_true rfl)⟩ rfl rfl (Nat.le_of_ble_eq_true rfl) rfl rfl rfl (Nat.le_of_ble_eq_true rfl) rfl ?_
  rw [zb_t hm]
  refine zi_if_ne O 11 d_Dia_pushDart_6 (by decide) (fun c6 => ?_) (fun c6 => ?_)
  rotate_left
  · exact absurd c6 (by decide)
  refine zi_iload_n O d_Dia_pushDart_11 rfl ?_
  refine zi_iconstN O 1 d_Dia_pushDart_12 (by decide) ?_
  first | refine zi_iandN O 1 1 d_Dia_pushDart_13 (by decide) (by omega) ?_ | refine zi_iandN O 3 2 d_Dia_pushDart_13 (by decide) (by omega) ?_ | refine zi_iand O d_Dia_pushDart_13 ?_
  rw [show a % 2 ^ 1 = 0 from hax]
  refine zi_if_ne O 21 d_Dia_pushDart_14 (by decide) (fun c14 => ?_) (fun c14 => ?_)
  · exact absurd rfl c14
  refine zi_iconstN O 1 d_Dia_pushDart_17 (by decide) ?_
  refine zi_goto O 22 d_Dia_pushDart_18 (by decide) ?_
  refine zi_istore (ls' := _ :: _ :: _ :: _ :: some _ :: _) O d_Dia_pushDart_22 rfl (by decide) rfl ?_
  refine zi_iload_n O d_Dia_pushDart_24 rfl ?_
  refine zi_iconstN O 1 d_Dia_pushDart_25 (by decide) ?_
  first | refine zi_iandN O 1 1 d_Dia_pushDart_26 (by decide) (by omega) ?_ | refine zi_iandN O 3 2 d_Dia_pushDart_26 (by decide) (by omega) ?_ | refine zi_iand O d_Dia_pushDart_26 ?_
  rw [show b % 2 ^ 1 = 1 from hay]
  refine zi_if_ne O 34 d_Dia_pushDart_27 (by decide) (fun c27 => ?_) (fun c27 => ?_)
  rotate_left
  · exact absurd c27 (by decide)
  refine zi_iconstN O 0 d_Dia_pushDart_34 (by decide) ?_
  refine zi_istore (ls' := _ :: _ :: _ :: _ :: _ :: some _ :: _) O d_Dia_pushDart_35 rfl (by decide) rfl ?_
  refine zi_aload_n O d_Dia_pushDart_37 rfl ?_
  refine zi_iload_n O d_Dia_pushDart_38 rfl ?_
  refine zi_iconstN O 1 d_Dia_pushDart_39 (by decide) ?_
  first | refine zi_ishrN O 2 2 d_Dia_pushDart_40 (by decide) (by omega) ?_ | refine zi_ishrN O 1 1 d_Dia_pushDart_40 (by decide) (by omega) ?_
  refine zi_iconstN O 0 d_Dia_pushDart_41 (by decide) ?_
  refine zi_selfV O c_Dia_158 k_Dia_cutEdge (m_Dia_cutEdge (by omega) hE hA (a / 2 ^ 1) 0 (by omega)) d_Dia_pushDart_42 ⟨(Nat.le_of_ble_eq_true rfl), (Nat.le_of_ble_eq_true rfl)⟩ ⟨(Nat.le_of_ble_eq_true rfl), (Nat.le_of_ble_eq_true rfl)⟩ rfl rfl (Nat.le_of_ble_eq_true rfl) rfl rfl rfl (Nat.le_of_ble_eq_true rfl) rfl (fun r h' hq hl => ?_)
  obtain ⟨rfl, rfl⟩ := hq
  rw [e1, e2]
  refine zi_st (st' := [.ref 18]) rfl ?_
  refine zi_astore (ls' := _ :: _ :: _ :: _ :: _ :: _ :: some _ :: _) O d_Dia_pushDart_45 rfl (by decide) rfl ?_
  refine zi_aload_n O d_Dia_pushDart_47 rfl ?_
  refine zi_iload_n O d_Dia_pushDart_48 rfl ?_
  refine zi_iconstN O 1 d_Dia_pushDart_49 (by decide) ?_
  first | refine zi_ishrN O 2 2 d_Dia_pushDart_50 (by decide) (by omega) ?_ | refine zi_ishrN O 1 1 d_Dia_pushDart_50 (by decide) (by omega) ?_
  refine zi_aload O d_Dia_pushDart_51 rfl ?_
  refine zi_get O f_Dia_180 d_Dia_pushDart_53 rfl rfl ?_
  refine zi_preV O (diaH ci n (upd L (to_ (a / 2)) (nI v)) S (2 * n) PL LB FR TO AT (FF (nxD fr to_ at_) (4 * n) (4 * n)).2 OF RD ST (rc oc n) (FF (nxE to_ at_) (2 * n) (2 * n)).2 OC CE SL) [cutC (nI (el (a / 2))) (nI u) (nI v)] rfl c_Dia_158 k_Dia_cutEdge (m_Dia_cutEdge (by omega) hE hA (b / 2 ^ 1) v (by omega)) d_Dia_pushDart_56 ⟨(Nat.le_of_ble_eq_true rfl), (Nat.le_of_ble_eq_true rfl)⟩ ⟨(Nat.le_of_ble_eq_true rfl), (Nat.le_of_ble_eq_true rfl)⟩ rfl rfl (Nat.le_of_ble_eq_true rfl) rfl rfl rfl (Nat.le_of_ble_eq_true rfl) rfl rfl (fun r h' hq => ?_) rfl (fun r h' hq hl => ?_)
  · obtain ⟨rfl, rfl⟩ := hq
    exact ⟨rfl, rfl⟩
  obtain ⟨rfl, rfl⟩ := hq
  rw [e3, e4]
  refine zi_st (st' := [.ref 19]) rfl (zi_h (h' := diaH ci n (upd (upd L (to_ (a / 2)) (nI v)) (to_ (b / 2)) (nI z)) S (2 * n) PL LB FR TO AT (FF (nxD fr to_ at_) (4 * n) (4 * n)).2 OF RD ST (rc oc n) (FF (nxE to_ at_) (2 * n) (2 * n)).2 OC CE SL ++ [cutC (nI (el (a / 2))) (nI u) (nI v), cutC (nI (el (b / 2))) (nI w) (nI z)]) rfl ?_)
  refine zi_astore (ls' := _ :: _ :: _ :: _ :: _ :: _ :: _ :: some _ :: _) O d_Dia_pushDart_59 rfl (by decide) rfl ?_
  refine zi_iload_n O d_Dia_pushDart_61 rfl ?_
  refine zi_iload O d_Dia_pushDart_62 rfl ?_
  refine zi_iload O d_Dia_pushDart_64 rfl ?_
  refine zi_icmp_ne O 73 d_Dia_pushDart_66 (by decide) (fun c66 => ?_) (fun c66 => ?_)
  rotate_left
  · exact absurd c66 (by decide)
  refine zi_iconstN O 0 d_Dia_pushDart_73 (by decide) ?_
  refine zi_icmp_ne O 81 d_Dia_pushDart_74 (by decide) (fun c74 => ?_) (fun c74 => ?_)
  · exact absurd rfl c74
  refine zi_iconstN O 1 d_Dia_pushDart_77 (by decide) ?_
  refine zi_goto O 82 d_Dia_pushDart_78 (by decide) ?_
  refine zi_istore (ls' := _ :: _ :: _ :: _ :: _ :: _ :: _ :: _ :: some _ :: _) O d_Dia_pushDart_82 rfl (by decide) rfl ?_
  refine zi_iload_n O d_Dia_pushDart_84 rfl ?_
  refine zi_if_eq O 136 d_Dia_pushDart_85 (by decide) (fun c85 => ?_) (fun c85 => ?_)
  rotate_left
  · exact absurd rfl c85
  refine zi_aload_n O d_Dia_pushDart_136 rfl ?_
  refine zi_iload O d_Dia_pushDart_137 rfl ?_
  refine zi_aload O d_Dia_pushDart_139 rfl ?_
  refine zi_iload O d_Dia_pushDart_141 rfl ?_
  refine zi_if_ne O 150 d_Dia_pushDart_143 (by decide) (fun c143 => ?_) (fun c143 => ?_)
  · exact absurd rfl c143
  refine zi_iconstN O 1 d_Dia_pushDart_146 (by decide) ?_
  refine zi_goto O 151 d_Dia_pushDart_147 (by decide) ?_
  refine zi_aload O d_Dia_pushDart_151 rfl ?_
  refine zi_iload O d_Dia_pushDart_153 rfl ?_
  refine zi_selfV O c_Dia_162 k_Dia_addCrossing (m_Dia_addCrossing_2 (by omega) (nI 1) (bI true) (bI true) (nI (el (b / 2))) (nI w) (nI z) (nI (el (a / 2))) (nI u) (nI v)) d_Dia_pushDart_155 ⟨(Nat.le_of_ble_eq_true rfl), (Nat.le_of_ble_eq_true rfl)⟩ ⟨(Nat.le_of_ble_eq_true rfl), (Nat.le_of_ble_eq_true rfl)⟩ rfl rfl (Nat.le_of_ble_eq_true rfl) rfl rfl rfl (Nat.le_of_ble_eq_true rfl) rfl (fun r h' hq hl => ?_)
  obtain ⟨rfl, rfl⟩ := hq
  refine zi_st (st' := []) rfl ?_
  refine zi_aload_n O d_Dia_pushDart_158 rfl ?_
  refine zi_iload O d_Dia_pushDart_159 rfl ?_
  refine zi_ineg O d_Dia_pushDart_161 ?_
  refine zi_aload O d_Dia_pushDart_162 rfl ?_
  refine zi_iload O d_Dia_pushDart_164 rfl ?_
  refine zi_aload O d_Dia_pushDart_166 rfl ?_
  refine zi_iload O d_Dia_pushDart_168 rfl ?_
  refine zi_if_ne O 177 d_Dia_pushDart_170 (by decide) (fun c170 => ?_) (fun c170 => ?_)
  rotate_left
  · exact absurd c170 (by decide)
  refine zi_iconstN O 0 d_Dia_pushDart_177 (by decide) ?_
  refine zi_selfV O c_Dia_162 k_Dia_addCrossing (m_Dia_addCrossing_2 (by omega) (-(nI 1)) (bI false) (bI false) (nI (el (b / 2))) (nI w) (nI z) (nI (el (a / 2))) (nI u) (nI v)) d_Dia_pushDart_178 ⟨(Nat.le_of_ble_eq_true rfl), (Nat.le_of_ble_eq_true rfl)⟩ ⟨(Nat.le_of_ble_eq_true rfl), (Nat.le_of_ble_eq_true rfl)⟩ rfl rfl (Nat.le_of_ble_eq_true rfl) rfl rfl rfl (Nat.le_of_ble_eq_true rfl) rfl (fun r h' hq hl => ?_)
  obtain ⟨rfl, rfl⟩ := hq
  refine zi_st (st' := []) rfl ?_
  refine zi_no 6 (ls' := _ :: _ :: _ :: _ :: _ :: _ :: none :: _) rfl ?_
  refine zi_no 7 (ls' := _ :: _ :: _ :: _ :: _ :: _ :: _ :: none :: _) rfl ?_
  refine zi_drop 18 ?_
  have hrow := rowOK_cr (rowOK_cr hR2 (by omega) (nI 1) true true y1 gw gz x1 gu gv) (by omega) (-(nI 1)) false false y1 gw gz x1 gu gv
  have hD2 : Dr (n + 1 + 1) (phL false true false (va_up (va_up lab (to_ (a / 2)) v) (to_ (b / 2)) z) n (el (a / 2)) u v (el (b / 2)) w z) (upd (upd S n (nI 1)) (n + 1) (-(nI 1))) ci (diaH ci (n + 1 + 1) _ (upd (upd S n (nI 1)) (n + 1) (-(nI 1))) (2 * n) PL LB FR TO AT (FF (nxD fr to_ at_) (4 * n) (4 * n)).2 OF RD ST (rc oc n) (FF (nxE to_ at_) (2 * n) (2 * n)).2 OC CE SL) := ⟨_, _, _, _, _, _, _, _, _, _, _, _, _, _, _, _, rfl, hrow, sg_add (sg_add hG (by decide)) (by decide), hz⟩
  refine zi_h (h' := diaH ci (n + 1 + 1) _ (upd (upd S n (nI 1)) (n + 1) (-(nI 1))) (2 * n) PL LB FR TO AT (FF (nxD fr to_ at_) (4 * n) (4 * n)).2 OF RD ST (rc oc n) (FF (nxE to_ at_) (2 * n) (2 * n)).2 OC CE SL) rfl ?_
  refine zi_aload_n O d_Dia_pushDart_181 rfl ?_
  refine zi_selfV O c_Dia_104 k_Dia_chart (m_Dia_chart2 hD2) d_Dia_pushDart_182 ⟨(Nat.le_of_ble_eq_true rfl), (Nat.le_of_ble_eq_true rfl)⟩ ⟨(Nat.le_of_ble_eq_true rfl), (Nat.le_of_ble_eq_true rfl)⟩ rfl rfl (Nat.le_of_ble_eq_true rfl) rfl rfl rfl (Nat.le_of_ble_eq_true rfl) rfl (fun r h' hq hl => ?_)
  obtain ⟨⟨x, rfl⟩, hC⟩ := hq
  obtain ⟨L, m, PL, LB, FR, TO, AT, F, OF, RD, ST, pc, co, OC, CE, SL, rfl⟩ := dr_form (chq_dr hC)
  refine zi_st (st' := [.int x]) rfl ?_
  refine zi_pop O d_Dia_pushDart_185 rfl ?_
  refine zi_iconstN O 1 d_Dia_pushDart_186 (by decide) ?_
  refine zi_zret O d_Dia_pushDart_187 rfl (Nat.le_of_ble_eq_true rfl) (Nat.le_of_ble_eq_true rfl) (Nat.le_of_ble_eq_true rfl) ?_
  exact ⟨rfl, hC⟩
set_option maxHeartbeats 2000000 in
theorem m_Dia_pushDart_011 (hD : Dia n lab S ci el fr to_ at_ oc h) (a b : Nat) (ha : a < 4 * n) (hb : b < 4 * n) (hn : n ≤ 18) (hax : a % 2 = 0) (hay : b % 2 = 0) (hm : oc (ca fr to_ a) ≠ oc (ca fr to_ b) ∨ (FF (nxD fr to_ at_) (4 * n) (4 * n)).1 a = (FF (nxD fr to_ at_) (4 * n) (4 * n)).1 b) (u v w z : Nat) (hu : u = fN el 0 (2 * n)) (hv : v = fN el u (2 * n)) (hw : w = fN el v (2 * n)) (hzz : z = fN el w (2 * n)) : zMet y_Dia_pushDart b_Dia_pushDart 9 (some .boolean) ⟨6, 2, 6, 170⟩ [.ref 0, .int (nI a), .int (nI b), .int (bI false)] h
    (fun r h' => r = some (.int (nI 1)) ∧ ChQ (n + 1 + 1) (phL false true true (va_up (va_up lab (to_ (a / 2)) v) (to_ (b / 2)) z) n (el (a / 2)) u v (el (b / 2)) w z) (upd (upd S n (phS false true true)) (n + 1) (-phS false true true)) ci h') := by
  have hD' := hD
  obtain ⟨L, PL, LB, FR, TO, AT, OF, RD, ST, OC, CE, SL, rfl, hR, hG, hz, hE, hA, hRd, hO, hP, hOF⟩ := hD
  have b1 := fN_le el 0 (2 * n)
  have b2 := fN_le el u (2 * n)
  have b3 := fN_le el v (2 * n)
  have b4 := fN_le el w (2 * n)
  rw [← hu] at b1
  rw [← hv] at b2
  rw [← hw] at b3
  rw [← hzz] at b4
  have e1 := (fa_el hR hE hA (a := 0) (by omega)).trans hu.symm
  have e2 := (fa_el hR hE hA (a := u) (by omega)).trans hv.symm
  have e3 := (fa_el hR hE hA (a := v) (by omega)).trans hw.symm
  have e4 := (fa_el hR hE hA (a := w) (by omega)).trans hzz.symm
  have x1 := el_ok hR hE (e := a / 2) (by omega)
  have y1 := el_ok hR hE (e := b / 2) (by omega)
  have gu : 1 ≤ u ∧ u ≤ 9999 := by omega
  have gv : 1 ≤ v ∧ v ≤ 9999 := by omega
  have gw : 1 ≤ w ∧ w ≤ 9999 := by omega
  have gz : 1 ≤ z ∧ z ≤ 9999 := by omega
  have hR2 := rowOK_up (rowOK_up hR (to_ (a / 2)) v (by omega)) (to_ (b / 2)) z (by omega)
  refine zMet_of (plainFor_of_name (by decide +kernel)) rfl (Nat.le_of_ble_eq_true rfl) (fun z1 z2 z3 z4 z5 z6 z7 z8 z9 z10 z11 z12 z13 z14 O hin => ?_)
  refine zi_ls (ls' := [some (.ref 0), some (.int (nI a)), some (.int (nI b)), some (.int (bI false)), none, none, none, none, none]) rfl ?_
  refine zi_aload_n O d_Dia_pushDart_0 rfl ?_
  refine zi_iload_n O d_Dia_pushDart_1 rfl ?_
  refine zi_iload_n O d_Dia_pushDart_2 rfl ?_
  refine zi_selfP O c_Dia_177 k_Dia_canMeet (m_Dia_canMeet hD' a b ha hb) d_Dia_pushDart_3 ⟨(Nat.le_of_ble_eq_true rfl), (Nat.le_of_ble_eq_true rfl)⟩ ⟨(Nat.le_of_ble_eq_true rfl), (Nat.le_of_ble_eq_true rfl)⟩ rfl rfl (Nat.le_of_ble_eq_true rfl) rfl rfl rfl (Nat.le_of_ble_eq_true rfl) rfl ?_
  rw [zb_t hm]
  refine zi_if_ne O 11 d_Dia_pushDart_6 (by decide) (fun c6 => ?_) (fun c6 => ?_)
  rotate_left
  · exact absurd c6 (by decide)
  refine zi_iload_n O d_Dia_pushDart_11 rfl ?_
  refine zi_iconstN O 1 d_Dia_pushDart_12 (by decide) ?_
  first | refine zi_iandN O 1 1 d_Dia_pushDart_13 (by decide) (by omega) ?_ | refine zi_iandN O 3 2 d_Dia_pushDart_13 (by decide) (by omega) ?_ | refine zi_iand O d_Dia_pushDart_13 ?_
  rw [show a % 2 ^ 1 = 0 from hax]
  refine zi_if_ne O 21 d_Dia_pushDart_14 (by decide) (fun c14 => ?_) (fun c14 => ?_)
  · exact absurd rfl c14
  refine zi_iconstN O 1 d_Dia_pushDart_17 (by decide) ?_
  refine zi_goto O 22 d_Dia_pushDart_18 (by decide) ?_
  refine zi_istore (ls' := _ :: _ :: _ :: _ :: some _ :: _) O d_Dia_pushDart_22 rfl (by decide) rfl ?_
  refine zi_iload_n O d_Dia_pushDart_24 rfl ?_
  refine zi_iconstN O 1 d_Dia_pushDart_25 (by decide) ?_
  first | refine zi_iandN O 1 1 d_Dia_pushDart_26 (by decide) (by omega) ?_ | refine zi_iandN O 3 2 d_Dia_pushDart_26 (by decide) (by omega) ?_ | refine zi_iand O d_Dia_pushDart_26 ?_
  rw [show b % 2 ^ 1 = 0 from hay]
  refine zi_if_ne O 34 d_Dia_pushDart_27 (by decide) (fun c27 => ?_) (fun c27 => ?_)
  · exact absurd rfl c27
  refine zi_iconstN O 1 d_Dia_pushDart_30 (by decide) ?_
  refine zi_goto O 35 d_Dia_pushDart_31 (by decide) ?_
  refine zi_istore (ls' := _ :: _ :: _ :: _ :: _ :: some _ :: _) O d_Dia_pushDart_35 rfl (by decide) rfl ?_
  refine zi_aload_n O d_Dia_pushDart_37 rfl ?_
  refine zi_iload_n O d_Dia_pushDart_38 rfl ?_
  refine zi_iconstN O 1 d_Dia_pushDart_39 (by decide) ?_
  first | refine zi_ishrN O 2 2 d_Dia_pushDart_40 (by decide) (by omega) ?_ | refine zi_ishrN O 1 1 d_Dia_pushDart_40 (by decide) (by omega) ?_
  refine zi_iconstN O 0 d_Dia_pushDart_41 (by decide) ?_
  refine zi_selfV O c_Dia_158 k_Dia_cutEdge (m_Dia_cutEdge (by omega) hE hA (a / 2 ^ 1) 0 (by omega)) d_Dia_pushDart_42 ⟨(Nat.le_of_ble_eq_true rfl), (Nat.le_of_ble_eq_true rfl)⟩ ⟨(Nat.le_of_ble_eq_true rfl), (Nat.le_of_ble_eq_true rfl)⟩ rfl rfl (Nat.le_of_ble_eq_true rfl) rfl rfl rfl (Nat.le_of_ble_eq_true rfl) rfl (fun r h' hq hl => ?_)
  obtain ⟨rfl, rfl⟩ := hq
  rw [e1, e2]
  refine zi_st (st' := [.ref 18]) rfl ?_
  refine zi_astore (ls' := _ :: _ :: _ :: _ :: _ :: _ :: some _ :: _) O d_Dia_pushDart_45 rfl (by decide) rfl ?_
  refine zi_aload_n O d_Dia_pushDart_47 rfl ?_
  refine zi_iload_n O d_Dia_pushDart_48 rfl ?_
  refine zi_iconstN O 1 d_Dia_pushDart_49 (by decide) ?_
  first | refine zi_ishrN O 2 2 d_Dia_pushDart_50 (by decide) (by omega) ?_ | refine zi_ishrN O 1 1 d_Dia_pushDart_50 (by decide) (by omega) ?_
  refine zi_aload O d_Dia_pushDart_51 rfl ?_
  refine zi_get O f_Dia_180 d_Dia_pushDart_53 rfl rfl ?_
  refine zi_preV O (diaH ci n (upd L (to_ (a / 2)) (nI v)) S (2 * n) PL LB FR TO AT (FF (nxD fr to_ at_) (4 * n) (4 * n)).2 OF RD ST (rc oc n) (FF (nxE to_ at_) (2 * n) (2 * n)).2 OC CE SL) [cutC (nI (el (a / 2))) (nI u) (nI v)] rfl c_Dia_158 k_Dia_cutEdge (m_Dia_cutEdge (by omega) hE hA (b / 2 ^ 1) v (by omega)) d_Dia_pushDart_56 ⟨(Nat.le_of_ble_eq_true rfl), (Nat.le_of_ble_eq_true rfl)⟩ ⟨(Nat.le_of_ble_eq_true rfl), (Nat.le_of_ble_eq_true rfl)⟩ rfl rfl (Nat.le_of_ble_eq_true rfl) rfl rfl rfl (Nat.le_of_ble_eq_true rfl) rfl rfl (fun r h' hq => ?_) rfl (fun r h' hq hl => ?_)
  · obtain ⟨rfl, rfl⟩ := hq
    exact ⟨rfl, rfl⟩
  obtain ⟨rfl, rfl⟩ := hq
  rw [e3, e4]
  refine zi_st (st' := [.ref 19]) rfl (zi_h (h' := diaH ci n (upd (upd L (to_ (a / 2)) (nI v)) (to_ (b / 2)) (nI z)) S (2 * n) PL LB FR TO AT (FF (nxD fr to_ at_) (4 * n) (4 * n)).2 OF RD ST (rc oc n) (FF (nxE to_ at_) (2 * n) (2 * n)).2 OC CE SL ++ [cutC (nI (el (a / 2))) (nI u) (nI v), cutC (nI (el (b / 2))) (nI w) (nI z)]) rfl ?_)
  refine zi_astore (ls' := _ :: _ :: _ :: _ :: _ :: _ :: _ :: some _ :: _) O d_Dia_pushDart_59 rfl (by decide) rfl ?_
  refine zi_iload_n O d_Dia_pushDart_61 rfl ?_
  refine zi_iload O d_Dia_pushDart_62 rfl ?_
  refine zi_iload O d_Dia_pushDart_64 rfl ?_
  refine zi_icmp_ne O 73 d_Dia_pushDart_66 (by decide) (fun c66 => ?_) (fun c66 => ?_)
  · exact absurd rfl c66
  refine zi_iconstN O 1 d_Dia_pushDart_69 (by decide) ?_
  refine zi_goto O 74 d_Dia_pushDart_70 (by decide) ?_
  refine zi_icmp_ne O 81 d_Dia_pushDart_74 (by decide) (fun c74 => ?_) (fun c74 => ?_)
  rotate_left
  · exact absurd c74 (by decide)
  refine zi_iconst (v := -1) O d_Dia_pushDart_81 (by decide) ?_
  refine zi_istore (ls' := _ :: _ :: _ :: _ :: _ :: _ :: _ :: _ :: some _ :: _) O d_Dia_pushDart_82 rfl (by decide) rfl ?_
  refine zi_iload_n O d_Dia_pushDart_84 rfl ?_
  refine zi_if_eq O 136 d_Dia_pushDart_85 (by decide) (fun c85 => ?_) (fun c85 => ?_)
  rotate_left
  · exact absurd rfl c85
  refine zi_aload_n O d_Dia_pushDart_136 rfl ?_
  refine zi_iload O d_Dia_pushDart_137 rfl ?_
  refine zi_aload O d_Dia_pushDart_139 rfl ?_
  refine zi_iload O d_Dia_pushDart_141 rfl ?_
  refine zi_if_ne O 150 d_Dia_pushDart_143 (by decide) (fun c143 => ?_) (fun c143 => ?_)
  rotate_left
  · exact absurd c143 (by decide)
  refine zi_iconstN O 0 d_Dia_pushDart_150 (by decide) ?_
  refine zi_aload O d_Dia_pushDart_151 rfl ?_
  refine zi_iload O d_Dia_pushDart_153 rfl ?_
  refine zi_selfV O c_Dia_162 k_Dia_addCrossing (m_Dia_addCrossing_2 (by omega) (-1) (bI false) (bI true) (nI (el (b / 2))) (nI w) (nI z) (nI (el (a / 2))) (nI u) (nI v)) d_Dia_pushDart_155 ⟨(Nat.le_of_ble_eq_true rfl), (Nat.le_of_ble_eq_true rfl)⟩ ⟨(Nat.le_of_ble_eq_true rfl), (Nat.le_of_ble_eq_true rfl)⟩ rfl rfl (Nat.le_of_ble_eq_true rfl) rfl rfl rfl (Nat.le_of_ble_eq_true rfl) rfl (fun r h' hq hl => ?_)
  obtain ⟨rfl, rfl⟩ := hq
  refine zi_st (st' := []) rfl ?_
  refine zi_aload_n O d_Dia_pushDart_158 rfl ?_
  refine zi_iload O d_Dia_pushDart_159 rfl ?_
  refine zi_ineg O d_Dia_pushDart_161 ?_
  refine zi_aload O d_Dia_pushDart_162 rfl ?_
  refine zi_iload O d_Dia_pushDart_164 rfl ?_
  refine zi_aload O d_Dia_pushDart_166 rfl ?_
  refine zi_iload O d_Dia_pushDart_168 rfl ?_
  refine zi_if_ne O 177 d_Dia_pushDart_170 (by decide) (fun c170 => ?_) (fun c170 => ?_)
  rotate_left
  · exact absurd c170 (by decide)
  refine zi_iconstN O 0 d_Dia_pushDart_177 (by decide) ?_
  refine zi_selfV O c_Dia_162 k_Dia_addCrossing (m_Dia_addCrossing_2 (by omega) (-(-1)) (bI true) (bI false) (nI (el (b / 2))) (nI w) (nI z) (nI (el (a / 2))) (nI u) (nI v)) d_Dia_pushDart_178 ⟨(Nat.le_of_ble_eq_true rfl), (Nat.le_of_ble_eq_true rfl)⟩ ⟨(Nat.le_of_ble_eq_true rfl), (Nat.le_of_ble_eq_true rfl)⟩ rfl rfl (Nat.le_of_ble_eq_true rfl) rfl rfl rfl (Nat.le_of_ble_eq_true rfl) rfl (fun r h' hq hl => ?_)
  obtain ⟨rfl, rfl⟩ := hq
  refine zi_st (st' := []) rfl ?_
  refine zi_no 6 (ls' := _ :: _ :: _ :: _ :: _ :: _ :: none :: _) rfl ?_
  refine zi_no 7 (ls' := _ :: _ :: _ :: _ :: _ :: _ :: _ :: none :: _) rfl ?_
  refine zi_drop 18 ?_
  have hrow := rowOK_cr (rowOK_cr hR2 (by omega) (-1) false true y1 gw gz x1 gu gv) (by omega) (-(-1)) true false y1 gw gz x1 gu gv
  have hD2 : Dr (n + 1 + 1) (phL false true true (va_up (va_up lab (to_ (a / 2)) v) (to_ (b / 2)) z) n (el (a / 2)) u v (el (b / 2)) w z) (upd (upd S n (-1)) (n + 1) (-(-1))) ci (diaH ci (n + 1 + 1) _ (upd (upd S n (-1)) (n + 1) (-(-1))) (2 * n) PL LB FR TO AT (FF (nxD fr to_ at_) (4 * n) (4 * n)).2 OF RD ST (rc oc n) (FF (nxE to_ at_) (2 * n) (2 * n)).2 OC CE SL) := ⟨_, _, _, _, _, _, _, _, _, _, _, _, _, _, _, _, rfl, hrow, sg_add (sg_add hG (by decide)) (by decide), hz⟩
  refine zi_h (h' := diaH ci (n + 1 + 1) _ (upd (upd S n (-1)) (n + 1) (-(-1))) (2 * n) PL LB FR TO AT (FF (nxD fr to_ at_) (4 * n) (4 * n)).2 OF RD ST (rc oc n) (FF (nxE to_ at_) (2 * n) (2 * n)).2 OC CE SL) rfl ?_
  refine zi_aload_n O d_Dia_pushDart_181 rfl ?_
  refine zi_selfV O c_Dia_104 k_Dia_chart (m_Dia_chart2 hD2) d_Dia_pushDart_182 ⟨(Nat.le_of_ble_eq_true rfl), (Nat.le_of_ble_eq_true rfl)⟩ ⟨(Nat.le_of_ble_eq_true rfl), (Nat.le_of_ble_eq_true rfl)⟩ rfl rfl (Nat.le_of_ble_eq_true rfl) rfl rfl rfl (Nat.le_of_ble_eq_true rfl) rfl (fun r h' hq hl => ?_)
  obtain ⟨⟨x, rfl⟩, hC⟩ := hq
  obtain ⟨L, m, PL, LB, FR, TO, AT, F, OF, RD, ST, pc, co, OC, CE, SL, rfl⟩ := dr_form (chq_dr hC)
  refine zi_st (st' := [.int x]) rfl ?_
  refine zi_pop O d_Dia_pushDart_185 rfl ?_
  refine zi_iconstN O 1 d_Dia_pushDart_186 (by decide) ?_
  refine zi_zret O d_Dia_pushDart_187 rfl (Nat.le_of_ble_eq_true rfl) (Nat.le_of_ble_eq_true rfl) (Nat.le_of_ble_eq_true rfl) ?_
  exact ⟨rfl, hC⟩
set_option maxHeartbeats 2000000 in
theorem m_Dia_pushDart_100 (hD : Dia n lab S ci el fr to_ at_ oc h) (a b : Nat) (ha : a < 4 * n) (hb : b < 4 * n) (hn : n ≤ 18) (hax : a % 2 = 1) (hay : b % 2 = 1) (hm : oc (ca fr to_ a) ≠ oc (ca fr to_ b) ∨ (FF (nxD fr to_ at_) (4 * n) (4 * n)).1 a = (FF (nxD fr to_ at_) (4 * n) (4 * n)).1 b) (u v w z : Nat) (hu : u = fN el 0 (2 * n)) (hv : v = fN el u (2 * n)) (hw : w = fN el v (2 * n)) (hzz : z = fN el w (2 * n)) : zMet y_Dia_pushDart b_Dia_pushDart 9 (some .boolean) ⟨6, 2, 6, 170⟩ [.ref 0, .int (nI a), .int (nI b), .int (bI true)] h
    (fun r h' => r = some (.int (nI 1)) ∧ ChQ (n + 1 + 1) (phL true false false (va_up (va_up lab (to_ (a / 2)) v) (to_ (b / 2)) z) n (el (a / 2)) u v (el (b / 2)) w z) (upd (upd S n (phS true false false)) (n + 1) (-phS true false false)) ci h') := by
  have hD' := hD
  obtain ⟨L, PL, LB, FR, TO, AT, OF, RD, ST, OC, CE, SL, rfl, hR, hG, hz, hE, hA, hRd, hO, hP, hOF⟩ := hD
  have b1 := fN_le el 0 (2 * n)
  have b2 := fN_le el u (2 * n)
  have b3 := fN_le el v (2 * n)
  have b4 := fN_le el w (2 * n)
  rw [← hu] at b1
  rw [← hv] at b2
  rw [← hw] at b3
  rw [← hzz] at b4
  have e1 := (fa_el hR hE hA (a := 0) (by omega)).trans hu.symm
  have e2 := (fa_el hR hE hA (a := u) (by omega)).trans hv.symm
  have e3 := (fa_el hR hE hA (a := v) (by omega)).trans hw.symm
  have e4 := (fa_el hR hE hA (a := w) (by omega)).trans hzz.symm
  have x1 := el_ok hR hE (e := a / 2) (by omega)
  have y1 := el_ok hR hE (e := b / 2) (by omega)
  have gu : 1 ≤ u ∧ u ≤ 9999 := by omega
  have gv : 1 ≤ v ∧ v ≤ 9999 := by omega
  have gw : 1 ≤ w ∧ w ≤ 9999 := by omega
  have gz : 1 ≤ z ∧ z ≤ 9999 := by omega
  have hR2 := rowOK_up (rowOK_up hR (to_ (a / 2)) v (by omega)) (to_ (b / 2)) z (by omega)
  refine zMet_of (plainFor_of_name (by decide +kernel)) rfl (Nat.le_of_ble_eq_true rfl) (fun z1 z2 z3 z4 z5 z6 z7 z8 z9 z10 z11 z12 z13 z14 O hin => ?_)
  refine zi_ls (ls' := [some (.ref 0), some (.int (nI a)), some (.int (nI b)), some (.int (bI true)), none, none, none, none, none]) rfl ?_
  refine zi_aload_n O d_Dia_pushDart_0 rfl ?_
  refine zi_iload_n O d_Dia_pushDart_1 rfl ?_
  refine zi_iload_n O d_Dia_pushDart_2 rfl ?_
  refine zi_selfP O c_Dia_177 k_Dia_canMeet (m_Dia_canMeet hD' a b ha hb) d_Dia_pushDart_3 ⟨(Nat.le_of_ble_eq_true rfl), (Nat.le_of_ble_eq_true rfl)⟩ ⟨(Nat.le_of_ble_eq_true rfl), (Nat.le_of_ble_eq_true rfl)⟩ rfl rfl (Nat.le_of_ble_eq_true rfl) rfl rfl rfl (Nat.le_of_ble_eq_true rfl) rfl ?_
  rw [zb_t hm]
  refine zi_if_ne O 11 d_Dia_pushDart_6 (by decide) (fun c6 => ?_) (fun c6 => ?_)
  rotate_left
  · exact absurd c6 (by decide)
  refine zi_iload_n O d_Dia_pushDart_11 rfl ?_
  refine zi_iconstN O 1 d_Dia_pushDart_12 (by decide) ?_
  first | refine zi_iandN O 1 1 d_Dia_pushDart_13 (by decide) (by omega) ?_ | refine zi_iandN O 3 2 d_Dia_pushDart_13 (by decide) (by omega) ?_ | refine zi_iand O d_Dia_pushDart_13 ?_
  rw [show a % 2 ^ 1 = 1 from hax]
  refine zi_if_ne O 21 d_Dia_pushDart_14 (by decide) (fun c14 => ?_) (fun c14 => ?_)
  rotate_left
  · exact absurd c14 (by decide)
  refine zi_iconstN O 0 d_Dia_pushDart_21 (by decide) ?_
  refine zi_istore (ls' := _ :: _ :: _ :: _ :: some _ :: _) O d_Dia_pushDart_22 rfl (by decide) rfl ?_
  refine zi_iload_n O d_Dia_pushDart_24 rfl ?_
  refine zi_iconstN O 1 d_Dia_pushDart_25 (by decide) ?_
  first | refine zi_iandN O 1 1 d_Dia_pushDart_26 (by decide) (by omega) ?_ | refine zi_iandN O 3 2 d_Dia_pushDart_26 (by decide) (by omega) ?_ | refine zi_iand O d_Dia_pushDart_26 ?_
  rw [show b % 2 ^ 1 = 1 from hay]
  refine zi_if_ne O 34 d_Dia_pushDart_27 (by decide) (fun c27 => ?_) (fun c27 => ?_)
  rotate_left
  · exact absurd c27 (by decide)
  refine zi_iconstN O 0 d_Dia_pushDart_34 (by decide) ?_
  refine zi_istore (ls' := _ :: _ :: _ :: _ :: _ :: some _ :: _) O d_Dia_pushDart_35 rfl (by decide) rfl ?_
  refine zi_aload_n O d_Dia_pushDart_37 rfl ?_
  refine zi_iload_n O d_Dia_pushDart_38 rfl ?_
  refine zi_iconstN O 1 d_Dia_pushDart_39 (by decide) ?_
  first | refine zi_ishrN O 2 2 d_Dia_pushDart_40 (by decide) (by omega) ?_ | refine zi_ishrN O 1 1 d_Dia_pushDart_40 (by decide) (by omega) ?_
  refine zi_iconstN O 0 d_Dia_pushDart_41 (by decide) ?_
  refine zi_selfV O c_Dia_158 k_Dia_cutEdge (m_Dia_cutEdge (by omega) hE hA (a / 2 ^ 1) 0 (by omega)) d_Dia_pushDart_42 ⟨(Nat.le_of_ble_eq_true rfl), (Nat.le_of_ble_eq_true rfl)⟩ ⟨(Nat.le_of_ble_eq_true rfl), (Nat.le_of_ble_eq_true rfl)⟩ rfl rfl (Nat.le_of_ble_eq_true rfl) rfl rfl rfl (Nat.le_of_ble_eq_true rfl) rfl (fun r h' hq hl => ?_)
  obtain ⟨rfl, rfl⟩ := hq
  rw [e1, e2]
  refine zi_st (st' := [.ref 18]) rfl ?_
  refine zi_astore (ls' := _ :: _ :: _ :: _ :: _ :: _ :: some _ :: _) O d_Dia_pushDart_45 rfl (by decide) rfl ?_
  refine zi_aload_n O d_Dia_pushDart_47 rfl ?_
  refine zi_iload_n O d_Dia_pushDart_48 rfl ?_
  refine zi_iconstN O 1 d_Dia_pushDart_49 (by decide) ?_
  first | refine zi_ishrN O 2 2 d_Dia_pushDart_50 (by decide) (by omega) ?_ | refine zi_ishrN O 1 1 d_Dia_pushDart_50 (by decide) (by omega) ?_
  refine zi_aload O d_Dia_pushDart_51 rfl ?_
  refine zi_get O f_Dia_180 d_Dia_pushDart_53 rfl rfl ?_
  refine zi_preV O (diaH ci n (upd L (to_ (a / 2)) (nI v)) S (2 * n) PL LB FR TO AT (FF (nxD fr to_ at_) (4 * n) (4 * n)).2 OF RD ST (rc oc n) (FF (nxE to_ at_) (2 * n) (2 * n)).2 OC CE SL) [cutC (nI (el (a / 2))) (nI u) (nI v)] rfl c_Dia_158 k_Dia_cutEdge (m_Dia_cutEdge (by omega) hE hA (b / 2 ^ 1) v (by omega)) d_Dia_pushDart_56 ⟨(Nat.le_of_ble_eq_true rfl), (Nat.le_of_ble_eq_true rfl)⟩ ⟨(Nat.le_of_ble_eq_true rfl), (Nat.le_of_ble_eq_true rfl)⟩ rfl rfl (Nat.le_of_ble_eq_true rfl) rfl rfl rfl (Nat.le_of_ble_eq_true rfl) rfl rfl (fun r h' hq => ?_) rfl (fun r h' hq hl => ?_)
  · obtain ⟨rfl, rfl⟩ := hq
    exact ⟨rfl, rfl⟩
  obtain ⟨rfl, rfl⟩ := hq
  rw [e3, e4]
  refine zi_st (st' := [.ref 19]) rfl (zi_h (h' := diaH ci n (upd (upd L (to_ (a / 2)) (nI v)) (to_ (b / 2)) (nI z)) S (2 * n) PL LB FR TO AT (FF (nxD fr to_ at_) (4 * n) (4 * n)).2 OF RD ST (rc oc n) (FF (nxE to_ at_) (2 * n) (2 * n)).2 OC CE SL ++ [cutC (nI (el (a / 2))) (nI u) (nI v), cutC (nI (el (b / 2))) (nI w) (nI z)]) rfl ?_)
  refine zi_astore (ls' := _ :: _ :: _ :: _ :: _ :: _ :: _ :: some _ :: _) O d_Dia_pushDart_59 rfl (by decide) rfl ?_
  refine zi_iload_n O d_Dia_pushDart_61 rfl ?_
  refine zi_iload O d_Dia_pushDart_62 rfl ?_
  refine zi_iload O d_Dia_pushDart_64 rfl ?_
  refine zi_icmp_ne O 73 d_Dia_pushDart_66 (by decide) (fun c66 => ?_) (fun c66 => ?_)
  · exact absurd rfl c66
  refine zi_iconstN O 1 d_Dia_pushDart_69 (by decide) ?_
  refine zi_goto O 74 d_Dia_pushDart_70 (by decide) ?_
  refine zi_icmp_ne O 81 d_Dia_pushDart_74 (by decide) (fun c74 => ?_) (fun c74 => ?_)
  · exact absurd rfl c74
  refine zi_iconstN O 1 d_Dia_pushDart_77 (by decide) ?_
  refine zi_goto O 82 d_Dia_pushDart_78 (by decide) ?_
  refine zi_istore (ls' := _ :: _ :: _ :: _ :: _ :: _ :: _ :: _ :: some _ :: _) O d_Dia_pushDart_82 rfl (by decide) rfl ?_
  refine zi_iload_n O d_Dia_pushDart_84 rfl ?_
  refine zi_if_eq O 136 d_Dia_pushDart_85 (by decide) (fun c85 => ?_) (fun c85 => ?_)
  · exact absurd c85 (by decide)
  refine zi_aload_n O d_Dia_pushDart_88 rfl ?_
  refine zi_iload O d_Dia_pushDart_89 rfl ?_
  refine zi_aload O d_Dia_pushDart_91 rfl ?_
  refine zi_iload O d_Dia_pushDart_93 rfl ?_
  refine zi_aload O d_Dia_pushDart_95 rfl ?_
  refine zi_iload O d_Dia_pushDart_97 rfl ?_
  refine zi_if_ne O 106 d_Dia_pushDart_99 (by decide) (fun c99 => ?_) (fun c99 => ?_)
  · exact absurd rfl c99
  refine zi_iconstN O 1 d_Dia_pushDart_102 (by decide) ?_
  refine zi_goto O 107 d_Dia_pushDart_103 (by decide) ?_
  refine zi_selfV O c_Dia_162 k_Dia_addCrossing (m_Dia_addCrossing_1 (by omega) (nI 1) (bI false) (bI true) (nI (el (a / 2))) (nI u) (nI v) (nI (el (b / 2))) (nI w) (nI z)) d_Dia_pushDart_107 ⟨(Nat.le_of_ble_eq_true rfl), (Nat.le_of_ble_eq_true rfl)⟩ ⟨(Nat.le_of_ble_eq_true rfl), (Nat.le_of_ble_eq_true rfl)⟩ rfl rfl (Nat.le_of_ble_eq_true rfl) rfl rfl rfl (Nat.le_of_ble_eq_true rfl) rfl (fun r h' hq hl => ?_)
  obtain ⟨rfl, rfl⟩ := hq
  refine zi_st (st' := []) rfl ?_
  refine zi_aload_n O d_Dia_pushDart_110 rfl ?_
  refine zi_iload O d_Dia_pushDart_111 rfl ?_
  refine zi_ineg O d_Dia_pushDart_113 ?_
  refine zi_aload O d_Dia_pushDart_114 rfl ?_
  refine zi_iload O d_Dia_pushDart_116 rfl ?_
  refine zi_if_ne O 125 d_Dia_pushDart_118 (by decide) (fun c118 => ?_) (fun c118 => ?_)
  · exact absurd rfl c118
  refine zi_iconstN O 1 d_Dia_pushDart_121 (by decide) ?_
  refine zi_goto O 126 d_Dia_pushDart_122 (by decide) ?_
  refine zi_aload O d_Dia_pushDart_126 rfl ?_
  refine zi_iload O d_Dia_pushDart_128 rfl ?_
  refine zi_selfV O c_Dia_162 k_Dia_addCrossing (m_Dia_addCrossing_1 (by omega) (-(nI 1)) (bI true) (bI false) (nI (el (a / 2))) (nI u) (nI v) (nI (el (b / 2))) (nI w) (nI z)) d_Dia_pushDart_130 ⟨(Nat.le_of_ble_eq_true rfl), (Nat.le_of_ble_eq_true rfl)⟩ ⟨(Nat.le_of_ble_eq_true rfl), (Nat.le_of_ble_eq_true rfl)⟩ rfl rfl (Nat.le_of_ble_eq_true rfl) rfl rfl rfl (Nat.le_of_ble_eq_true rfl) rfl (fun r h' hq hl => ?_)
  obtain ⟨rfl, rfl⟩ := hq
  refine zi_st (st' := []) rfl ?_
  refine zi_goto O 181 d_Dia_pushDart_133 (by decide) ?_
  refine zi_no 6 (ls' := _ :: _ :: _ :: _ :: _ :: _ :: none :: _) rfl ?_
  refine zi_no 7 (ls' := _ :: _ :: _ :: _ :: _ :: _ :: _ :: none :: _) rfl ?_
  refine zi_drop 18 ?_
  have hrow := rowOK_cr (rowOK_cr hR2 (by omega) (nI 1) false true x1 gu gv y1 gw gz) (by omega) (-(nI 1)) true false x1 gu gv y1 gw gz
  have hD2 : Dr (n + 1 + 1) (phL true false false (va_up (va_up lab (to_ (a / 2)) v) (to_ (b / 2)) z) n (el (a / 2)) u v (el (b / 2)) w z) (upd (upd S n (nI 1)) (n + 1) (-(nI 1))) ci (diaH ci (n + 1 + 1) _ (upd (upd S n (nI 1)) (n + 1) (-(nI 1))) (2 * n) PL LB FR TO AT (FF (nxD fr to_ at_) (4 * n) (4 * n)).2 OF RD ST (rc oc n) (FF (nxE to_ at_) (2 * n) (2 * n)).2 OC CE SL) := ⟨_, _, _, _, _, _, _, _, _, _, _, _, _, _, _, _, rfl, hrow, sg_add (sg_add hG (by decide)) (by decide), hz⟩
  refine zi_h (h' := diaH ci (n + 1 + 1) _ (upd (upd S n (nI 1)) (n + 1) (-(nI 1))) (2 * n) PL LB FR TO AT (FF (nxD fr to_ at_) (4 * n) (4 * n)).2 OF RD ST (rc oc n) (FF (nxE to_ at_) (2 * n) (2 * n)).2 OC CE SL) rfl ?_
  refine zi_aload_n O d_Dia_pushDart_181 rfl ?_
  refine zi_selfV O c_Dia_104 k_Dia_chart (m_Dia_chart2 hD2) d_Dia_pushDart_182 ⟨(Nat.le_of_ble_eq_true rfl), (Nat.le_of_ble_eq_true rfl)⟩ ⟨(Nat.le_of_ble_eq_true rfl), (Nat.le_of_ble_eq_true rfl)⟩ rfl rfl (Nat.le_of_ble_eq_true rfl) rfl rfl rfl (Nat.le_of_ble_eq_true rfl) rfl (fun r h' hq hl => ?_)
  obtain ⟨⟨x, rfl⟩, hC⟩ := hq
  obtain ⟨L, m, PL, LB, FR, TO, AT, F, OF, RD, ST, pc, co, OC, CE, SL, rfl⟩ := dr_form (chq_dr hC)
  refine zi_st (st' := [.int x]) rfl ?_
  refine zi_pop O d_Dia_pushDart_185 rfl ?_
  refine zi_iconstN O 1 d_Dia_pushDart_186 (by decide) ?_
  refine zi_zret O d_Dia_pushDart_187 rfl (Nat.le_of_ble_eq_true rfl) (Nat.le_of_ble_eq_true rfl) (Nat.le_of_ble_eq_true rfl) ?_
  exact ⟨rfl, hC⟩
set_option maxHeartbeats 2000000 in
theorem m_Dia_pushDart_101 (hD : Dia n lab S ci el fr to_ at_ oc h) (a b : Nat) (ha : a < 4 * n) (hb : b < 4 * n) (hn : n ≤ 18) (hax : a % 2 = 1) (hay : b % 2 = 0) (hm : oc (ca fr to_ a) ≠ oc (ca fr to_ b) ∨ (FF (nxD fr to_ at_) (4 * n) (4 * n)).1 a = (FF (nxD fr to_ at_) (4 * n) (4 * n)).1 b) (u v w z : Nat) (hu : u = fN el 0 (2 * n)) (hv : v = fN el u (2 * n)) (hw : w = fN el v (2 * n)) (hzz : z = fN el w (2 * n)) : zMet y_Dia_pushDart b_Dia_pushDart 9 (some .boolean) ⟨6, 2, 6, 170⟩ [.ref 0, .int (nI a), .int (nI b), .int (bI true)] h
    (fun r h' => r = some (.int (nI 1)) ∧ ChQ (n + 1 + 1) (phL true false true (va_up (va_up lab (to_ (a / 2)) v) (to_ (b / 2)) z) n (el (a / 2)) u v (el (b / 2)) w z) (upd (upd S n (phS true false true)) (n + 1) (-phS true false true)) ci h') := by
  have hD' := hD
  obtain ⟨L, PL, LB, FR, TO, AT, OF, RD, ST, OC, CE, SL, rfl, hR, hG, hz, hE, hA, hRd, hO, hP, hOF⟩ := hD
  have b1 := fN_le el 0 (2 * n)
  have b2 := fN_le el u (2 * n)
  have b3 := fN_le el v (2 * n)
  have b4 := fN_le el w (2 * n)
  rw [← hu] at b1
  rw [← hv] at b2
  rw [← hw] at b3
  rw [← hzz] at b4
  have e1 := (fa_el hR hE hA (a := 0) (by omega)).trans hu.symm
  have e2 := (fa_el hR hE hA (a := u) (by omega)).trans hv.symm
  have e3 := (fa_el hR hE hA (a := v) (by omega)).trans hw.symm
  have e4 := (fa_el hR hE hA (a := w) (by omega)).trans hzz.symm
  have x1 := el_ok hR hE (e := a / 2) (by omega)
  have y1 := el_ok hR hE (e := b / 2) (by omega)
  have gu : 1 ≤ u ∧ u ≤ 9999 := by omega
  have gv : 1 ≤ v ∧ v ≤ 9999 := by omega
  have gw : 1 ≤ w ∧ w ≤ 9999 := by omega
  have gz : 1 ≤ z ∧ z ≤ 9999 := by omega
  have hR2 := rowOK_up (rowOK_up hR (to_ (a / 2)) v (by omega)) (to_ (b / 2)) z (by omega)
  refine zMet_of (plainFor_of_name (by decide +kernel)) rfl (Nat.le_of_ble_eq_true rfl) (fun z1 z2 z3 z4 z5 z6 z7 z8 z9 z10 z11 z12 z13 z14 O hin => ?_)
  refine zi_ls (ls' := [some (.ref 0), some (.int (nI a)), some (.int (nI b)), some (.int (bI true)), none, none, none, none, none]) rfl ?_
  refine zi_aload_n O d_Dia_pushDart_0 rfl ?_
  refine zi_iload_n O d_Dia_pushDart_1 rfl ?_
  refine zi_iload_n O d_Dia_pushDart_2 rfl ?_
  refine zi_selfP O c_Dia_177 k_Dia_canMeet (m_Dia_canMeet hD' a b ha hb) d_Dia_pushDart_3 ⟨(Nat.le_of_ble_eq_true rfl), (Nat.le_of_ble_eq_true rfl)⟩ ⟨(Nat.le_of_ble_eq_true rfl), (Nat.le_of_ble_eq_true rfl)⟩ rfl rfl (Nat.le_of_ble_eq_true rfl) rfl rfl rfl (Nat.le_of_ble_eq_true rfl) rfl ?_
  rw [zb_t hm]
  refine zi_if_ne O 11 d_Dia_pushDart_6 (by decide) (fun c6 => ?_) (fun c6 => ?_)
  rotate_left
  · exact absurd c6 (by decide)
  refine zi_iload_n O d_Dia_pushDart_11 rfl ?_
  refine zi_iconstN O 1 d_Dia_pushDart_12 (by decide) ?_
  first | refine zi_iandN O 1 1 d_Dia_pushDart_13 (by decide) (by omega) ?_ | refine zi_iandN O 3 2 d_Dia_pushDart_13 (by decide) (by omega) ?_ | refine zi_iand O d_Dia_pushDart_13 ?_
  rw [show a % 2 ^ 1 = 1 from hax]
  refine zi_if_ne O 21 d_Dia_pushDart_14 (by decide) (fun c14 => ?_) (fun c14 => ?_)
  rotate_left
  · exact absurd c14 (by decide)
  refine zi_iconstN O 0 d_Dia_pushDart_21 (by decide) ?_
  refine zi_istore (ls' := _ :: _ :: _ :: _ :: some _ :: _) O d_Dia_pushDart_22 rfl (by decide) rfl ?_
  refine zi_iload_n O d_Dia_pushDart_24 rfl ?_
  refine zi_iconstN O 1 d_Dia_pushDart_25 (by decide) ?_
  first | refine zi_iandN O 1 1 d_Dia_pushDart_26 (by decide) (by omega) ?_ | refine zi_iandN O 3 2 d_Dia_pushDart_26 (by decide) (by omega) ?_ | refine zi_iand O d_Dia_pushDart_26 ?_
  rw [show b % 2 ^ 1 = 0 from hay]
  refine zi_if_ne O 34 d_Dia_pushDart_27 (by decide) (fun c27 => ?_) (fun c27 => ?_)
  · exact absurd rfl c27
  refine zi_iconstN O 1 d_Dia_pushDart_30 (by decide) ?_
  refine zi_goto O 35 d_Dia_pushDart_31 (by decide) ?_
  refine zi_istore (ls' := _ :: _ :: _ :: _ :: _ :: some _ :: _) O d_Dia_pushDart_35 rfl (by decide) rfl ?_
  refine zi_aload_n O d_Dia_pushDart_37 rfl ?_
  refine zi_iload_n O d_Dia_pushDart_38 rfl ?_
  refine zi_iconstN O 1 d_Dia_pushDart_39 (by decide) ?_
  first | refine zi_ishrN O 2 2 d_Dia_pushDart_40 (by decide) (by omega) ?_ | refine zi_ishrN O 1 1 d_Dia_pushDart_40 (by decide) (by omega) ?_
  refine zi_iconstN O 0 d_Dia_pushDart_41 (by decide) ?_
  refine zi_selfV O c_Dia_158 k_Dia_cutEdge (m_Dia_cutEdge (by omega) hE hA (a / 2 ^ 1) 0 (by omega)) d_Dia_pushDart_42 ⟨(Nat.le_of_ble_eq_true rfl), (Nat.le_of_ble_eq_true rfl)⟩ ⟨(Nat.le_of_ble_eq_true rfl), (Nat.le_of_ble_eq_true rfl)⟩ rfl rfl (Nat.le_of_ble_eq_true rfl) rfl rfl rfl (Nat.le_of_ble_eq_true rfl) rfl (fun r h' hq hl => ?_)
  obtain ⟨rfl, rfl⟩ := hq
  rw [e1, e2]
  refine zi_st (st' := [.ref 18]) rfl ?_
  refine zi_astore (ls' := _ :: _ :: _ :: _ :: _ :: _ :: some _ :: _) O d_Dia_pushDart_45 rfl (by decide) rfl ?_
  refine zi_aload_n O d_Dia_pushDart_47 rfl ?_
  refine zi_iload_n O d_Dia_pushDart_48 rfl ?_
  refine zi_iconstN O 1 d_Dia_pushDart_49 (by decide) ?_
  first | refine zi_ishrN O 2 2 d_Dia_pushDart_50 (by decide) (by omega) ?_ | refine zi_ishrN O 1 1 d_Dia_pushDart_50 (by decide) (by omega) ?_
  refine zi_aload O d_Dia_pushDart_51 rfl ?_
  refine zi_get O f_Dia_180 d_Dia_pushDart_53 rfl rfl ?_
  refine zi_preV O (diaH ci n (upd L (to_ (a / 2)) (nI v)) S (2 * n) PL LB FR TO AT (FF (nxD fr to_ at_) (4 * n) (4 * n)).2 OF RD ST (rc oc n) (FF (nxE to_ at_) (2 * n) (2 * n)).2 OC CE SL) [cutC (nI (el (a / 2))) (nI u) (nI v)] rfl c_Dia_158 k_Dia_cutEdge (m_Dia_cutEdge (by omega) hE hA (b / 2 ^ 1) v (by omega)) d_Dia_pushDart_56 ⟨(Nat.le_of_ble_eq_true rfl), (Nat.le_of_ble_eq_true rfl)⟩ ⟨(Nat.le_of_ble_eq_true rfl), (Nat.le_of_ble_eq_true rfl)⟩ rfl rfl (Nat.le_of_ble_eq_true rfl) rfl rfl rfl (Nat.le_of_ble_eq_true rfl) rfl rfl (fun r h' hq => ?_) rfl (fun r h' hq hl => ?_)
  · obtain ⟨rfl, rfl⟩ := hq
    exact ⟨rfl, rfl⟩
  obtain ⟨rfl, rfl⟩ := hq
  rw [e3, e4]
  refine zi_st (st' := [.ref 19]) rfl (zi_h (h' := diaH ci n (upd (upd L (to_ (a / 2)) (nI v)) (to_ (b / 2)) (nI z)) S (2 * n) PL LB FR TO AT (FF (nxD fr to_ at_) (4 * n) (4 * n)).2 OF RD ST (rc oc n) (FF (nxE to_ at_) (2 * n) (2 * n)).2 OC CE SL ++ [cutC (nI (el (a / 2))) (nI u) (nI v), cutC (nI (el (b / 2))) (nI w) (nI z)]) rfl ?_)
  refine zi_astore (ls' := _ :: _ :: _ :: _ :: _ :: _ :: _ :: some _ :: _) O d_Dia_pushDart_59 rfl (by decide) rfl ?_
  refine zi_iload_n O d_Dia_pushDart_61 rfl ?_
  refine zi_iload O d_Dia_pushDart_62 rfl ?_
  refine zi_iload O d_Dia_pushDart_64 rfl ?_
  refine zi_icmp_ne O 73 d_Dia_pushDart_66 (by decide) (fun c66 => ?_) (fun c66 => ?_)
  rotate_left
  · exact absurd c66 (by decide)
  refine zi_iconstN O 0 d_Dia_pushDart_73 (by decide) ?_
  refine zi_icmp_ne O 81 d_Dia_pushDart_74 (by decide) (fun c74 => ?_) (fun c74 => ?_)
  rotate_left
  · exact absurd c74 (by decide)
  refine zi_iconst (v := -1) O d_Dia_pushDart_81 (by decide) ?_
  refine zi_istore (ls' := _ :: _ :: _ :: _ :: _ :: _ :: _ :: _ :: some _ :: _) O d_Dia_pushDart_82 rfl (by decide) rfl ?_
  refine zi_iload_n O d_Dia_pushDart_84 rfl ?_
  refine zi_if_eq O 136 d_Dia_pushDart_85 (by decide) (fun c85 => ?_) (fun c85 => ?_)
  · exact absurd c85 (by decide)
  refine zi_aload_n O d_Dia_pushDart_88 rfl ?_
  refine zi_iload O d_Dia_pushDart_89 rfl ?_
  refine zi_aload O d_Dia_pushDart_91 rfl ?_
  refine zi_iload O d_Dia_pushDart_93 rfl ?_
  refine zi_aload O d_Dia_pushDart_95 rfl ?_
  refine zi_iload O d_Dia_pushDart_97 rfl ?_
  refine zi_if_ne O 106 d_Dia_pushDart_99 (by decide) (fun c99 => ?_) (fun c99 => ?_)
  rotate_left
  · exact absurd c99 (by decide)
  refine zi_iconstN O 0 d_Dia_pushDart_106 (by decide) ?_
  refine zi_selfV O c_Dia_162 k_Dia_addCrossing (m_Dia_addCrossing_1 (by omega) (-1) (bI false) (bI false) (nI (el (a / 2))) (nI u) (nI v) (nI (el (b / 2))) (nI w) (nI z)) d_Dia_pushDart_107 ⟨(Nat.le_of_ble_eq_true rfl), (Nat.le_of_ble_eq_true rfl)⟩ ⟨(Nat.le_of_ble_eq_true rfl), (Nat.le_of_ble_eq_true rfl)⟩ rfl rfl (Nat.le_of_ble_eq_true rfl) rfl rfl rfl (Nat.le_of_ble_eq_true rfl) rfl (fun r h' hq hl => ?_)
  obtain ⟨rfl, rfl⟩ := hq
  refine zi_st (st' := []) rfl ?_
  refine zi_aload_n O d_Dia_pushDart_110 rfl ?_
  refine zi_iload O d_Dia_pushDart_111 rfl ?_
  refine zi_ineg O d_Dia_pushDart_113 ?_
  refine zi_aload O d_Dia_pushDart_114 rfl ?_
  refine zi_iload O d_Dia_pushDart_116 rfl ?_
  refine zi_if_ne O 125 d_Dia_pushDart_118 (by decide) (fun c118 => ?_) (fun c118 => ?_)
  · exact absurd rfl c118
  refine zi_iconstN O 1 d_Dia_pushDart_121 (by decide) ?_
  refine zi_goto O 126 d_Dia_pushDart_122 (by decide) ?_
  refine zi_aload O d_Dia_pushDart_126 rfl ?_
  refine zi_iload O d_Dia_pushDart_128 rfl ?_
  refine zi_selfV O c_Dia_162 k_Dia_addCrossing (m_Dia_addCrossing_1 (by omega) (-(-1)) (bI true) (bI true) (nI (el (a / 2))) (nI u) (nI v) (nI (el (b / 2))) (nI w) (nI z)) d_Dia_pushDart_130 ⟨(Nat.le_of_ble_eq_true rfl), (Nat.le_of_ble_eq_true rfl)⟩ ⟨(Nat.le_of_ble_eq_true rfl), (Nat.le_of_ble_eq_true rfl)⟩ rfl rfl (Nat.le_of_ble_eq_true rfl) rfl rfl rfl (Nat.le_of_ble_eq_true rfl) rfl (fun r h' hq hl => ?_)
  obtain ⟨rfl, rfl⟩ := hq
  refine zi_st (st' := []) rfl ?_
  refine zi_goto O 181 d_Dia_pushDart_133 (by decide) ?_
  refine zi_no 6 (ls' := _ :: _ :: _ :: _ :: _ :: _ :: none :: _) rfl ?_
  refine zi_no 7 (ls' := _ :: _ :: _ :: _ :: _ :: _ :: _ :: none :: _) rfl ?_
  refine zi_drop 18 ?_
  have hrow := rowOK_cr (rowOK_cr hR2 (by omega) (-1) false false x1 gu gv y1 gw gz) (by omega) (-(-1)) true true x1 gu gv y1 gw gz
  have hD2 : Dr (n + 1 + 1) (phL true false true (va_up (va_up lab (to_ (a / 2)) v) (to_ (b / 2)) z) n (el (a / 2)) u v (el (b / 2)) w z) (upd (upd S n (-1)) (n + 1) (-(-1))) ci (diaH ci (n + 1 + 1) _ (upd (upd S n (-1)) (n + 1) (-(-1))) (2 * n) PL LB FR TO AT (FF (nxD fr to_ at_) (4 * n) (4 * n)).2 OF RD ST (rc oc n) (FF (nxE to_ at_) (2 * n) (2 * n)).2 OC CE SL) := ⟨_, _, _, _, _, _, _, _, _, _, _, _, _, _, _, _, rfl, hrow, sg_add (sg_add hG (by decide)) (by decide), hz⟩
  refine zi_h (h' := diaH ci (n + 1 + 1) _ (upd (upd S n (-1)) (n + 1) (-(-1))) (2 * n) PL LB FR TO AT (FF (nxD fr to_ at_) (4 * n) (4 * n)).2 OF RD ST (rc oc n) (FF (nxE to_ at_) (2 * n) (2 * n)).2 OC CE SL) rfl ?_
  refine zi_aload_n O d_Dia_pushDart_181 rfl ?_
  refine zi_selfV O c_Dia_104 k_Dia_chart (m_Dia_chart2 hD2) d_Dia_pushDart_182 ⟨(Nat.le_of_ble_eq_true rfl), (Nat.le_of_ble_eq_true rfl)⟩ ⟨(Nat.le_of_ble_eq_true rfl), (Nat.le_of_ble_eq_true rfl)⟩ rfl rfl (Nat.le_of_ble_eq_true rfl) rfl rfl rfl (Nat.le_of_ble_eq_true rfl) rfl (fun r h' hq hl => ?_)
  obtain ⟨⟨x, rfl⟩, hC⟩ := hq
  obtain ⟨L, m, PL, LB, FR, TO, AT, F, OF, RD, ST, pc, co, OC, CE, SL, rfl⟩ := dr_form (chq_dr hC)
  refine zi_st (st' := [.int x]) rfl ?_
  refine zi_pop O d_Dia_pushDart_185 rfl ?_
  refine zi_iconstN O 1 d_Dia_pushDart_186 (by decide) ?_
  refine zi_zret O d_Dia_pushDart_187 rfl (Nat.le_of_ble_eq_true rfl) (Nat.le_of_ble_eq_true rfl) (Nat.le_of_ble_eq_true rfl) ?_
  exact ⟨rfl, hC⟩
set_option maxHeartbeats 2000000 in
theorem m_Dia_pushDart_110 (hD : Dia n lab S ci el fr to_ at_ oc h) (a b : Nat) (ha : a < 4 * n) (hb : b < 4 * n) (hn : n ≤ 18) (hax : a % 2 = 0) (hay : b % 2 = 1) (hm : oc (ca fr to_ a) ≠ oc (ca fr to_ b) ∨ (FF (nxD fr to_ at_) (4 * n) (4 * n)).1 a = (FF (nxD fr to_ at_) (4 * n) (4 * n)).1 b) (u v w z : Nat) (hu : u = fN el 0 (2 * n)) (hv : v = fN el u (2 * n)) (hw : w = fN el v (2 * n)) (hzz : z = fN el w (2 * n)) : zMet y_Dia_pushDart b_Dia_pushDart 9 (some .boolean) ⟨6, 2, 6, 170⟩ [.ref 0, .int (nI a), .int (nI b), .int (bI true)] h
    (fun r h' => r = some (.int (nI 1)) ∧ ChQ (n + 1 + 1) (phL true true false (va_up (va_up lab (to_ (a / 2)) v) (to_ (b / 2)) z) n (el (a / 2)) u v (el (b / 2)) w z) (upd (upd S n (phS true true false)) (n + 1) (-phS true true false)) ci h') := by
  have hD' := hD
  obtain ⟨L, PL, LB, FR, TO, AT, OF, RD, ST, OC, CE, SL, rfl, hR, hG, hz, hE, hA, hRd, hO, hP, hOF⟩ := hD
  have b1 := fN_le el 0 (2 * n)
  have b2 := fN_le el u (2 * n)
  have b3 := fN_le el v (2 * n)
  have b4 := fN_le el w (2 * n)
  rw [← hu] at b1
  rw [← hv] at b2
  rw [← hw] at b3
  rw [← hzz] at b4
  have e1 := (fa_el hR hE hA (a := 0) (by omega)).trans hu.symm
  have e2 := (fa_el hR hE hA (a := u) (by omega)).trans hv.symm
  have e3 := (fa_el hR hE hA (a := v) (by omega)).trans hw.symm
  have e4 := (fa_el hR hE hA (a := w) (by omega)).trans hzz.symm
  have x1 := el_ok hR hE (e := a / 2) (by omega)
  have y1 := el_ok hR hE (e := b / 2) (by omega)
  have gu : 1 ≤ u ∧ u ≤ 9999 := by omega
  have gv : 1 ≤ v ∧ v ≤ 9999 := by omega
  have gw : 1 ≤ w ∧ w ≤ 9999 := by omega
  have gz : 1 ≤ z ∧ z ≤ 9999 := by omega
  have hR2 := rowOK_up (rowOK_up hR (to_ (a / 2)) v (by omega)) (to_ (b / 2)) z (by omega)
  refine zMet_of (plainFor_of_name (by decide +kernel)) rfl (Nat.le_of_ble_eq_true rfl) (fun z1 z2 z3 z4 z5 z6 z7 z8 z9 z10 z11 z12 z13 z14 O hin => ?_)
  refine zi_ls (ls' := [some (.ref 0), some (.int (nI a)), some (.int (nI b)), some (.int (bI true)), none, none, none, none, none]) rfl ?_
  refine zi_aload_n O d_Dia_pushDart_0 rfl ?_
  refine zi_iload_n O d_Dia_pushDart_1 rfl ?_
  refine zi_iload_n O d_Dia_pushDart_2 rfl ?_
  refine zi_selfP O c_Dia_177 k_Dia_canMeet (m_Dia_canMeet hD' a b ha hb) d_Dia_pushDart_3 ⟨(Nat.le_of_ble_eq_true rfl), (Nat.le_of_ble_eq_true rfl)⟩ ⟨(Nat.le_of_ble_eq_true rfl), (Nat.le_of_ble_eq_true rfl)⟩ rfl rfl (Nat.le_of_ble_eq_true rfl) rfl rfl rfl (Nat.le_of_ble_eq_true rfl) rfl ?_
  rw [zb_t hm]
  refine zi_if_ne O 11 d_Dia_pushDart_6 (by decide) (fun c6 => ?_) (fun c6 => ?_)
  rotate_left
  · exact absurd c6 (by decide)
  refine zi_iload_n O d_Dia_pushDart_11 rfl ?_
  refine zi_iconstN O 1 d_Dia_pushDart_12 (by decide) ?_
  first | refine zi_iandN O 1 1 d_Dia_pushDart_13 (by decide) (by omega) ?_ | refine zi_iandN O 3 2 d_Dia_pushDart_13 (by decide) (by omega) ?_ | refine zi_iand O d_Dia_pushDart_13 ?_
  rw [show a % 2 ^ 1 = 0 from hax]
  refine zi_if_ne O 21 d_Dia_pushDart_14 (by decide) (fun c14 => ?_) (fun c14 => ?_)
  · exact absurd rfl c14
  refine zi_iconstN O 1 d_Dia_pushDart_17 (by decide) ?_
  refine zi_goto O 22 d_Dia_pushDart_18 (by decide) ?_
  refine zi_istore (ls' := _ :: _ :: _ :: _ :: some _ :: _) O d_Dia_pushDart_22 rfl (by decide) rfl ?_
  refine zi_iload_n O d_Dia_pushDart_24 rfl ?_
  refine zi_iconstN O 1 d_Dia_pushDart_25 (by decide) ?_
  first | refine zi_iandN O 1 1 d_Dia_pushDart_26 (by decide) (by omega) ?_ | refine zi_iandN O 3 2 d_Dia_pushDart_26 (by decide) (by omega) ?_ | refine zi_iand O d_Dia_pushDart_26 ?_
  rw [show b % 2 ^ 1 = 1 from hay]
  refine zi_if_ne O 34 d_Dia_pushDart_27 (by decide) (fun c27 => ?_) (fun c27 => ?_)
  rotate_left
  · exact absurd c27 (by decide)
  refine zi_iconstN O 0 d_Dia_pushDart_34 (by decide) ?_
  refine zi_istore (ls' := _ :: _ :: _ :: _ :: _ :: some _ :: _) O d_Dia_pushDart_35 rfl (by decide) rfl ?_
  refine zi_aload_n O d_Dia_pushDart_37 rfl ?_
  refine zi_iload_n O d_Dia_pushDart_38 rfl ?_
  refine zi_iconstN O 1 d_Dia_pushDart_39 (by decide) ?_
  first | refine zi_ishrN O 2 2 d_Dia_pushDart_40 (by decide) (by omega) ?_ | refine zi_ishrN O 1 1 d_Dia_pushDart_40 (by decide) (by omega) ?_
  refine zi_iconstN O 0 d_Dia_pushDart_41 (by decide) ?_
  refine zi_selfV O c_Dia_158 k_Dia_cutEdge (m_Dia_cutEdge (by omega) hE hA (a / 2 ^ 1) 0 (by omega)) d_Dia_pushDart_42 ⟨(Nat.le_of_ble_eq_true rfl), (Nat.le_of_ble_eq_true rfl)⟩ ⟨(Nat.le_of_ble_eq_true rfl), (Nat.le_of_ble_eq_true rfl)⟩ rfl rfl (Nat.le_of_ble_eq_true rfl) rfl rfl rfl (Nat.le_of_ble_eq_true rfl) rfl (fun r h' hq hl => ?_)
  obtain ⟨rfl, rfl⟩ := hq
  rw [e1, e2]
  refine zi_st (st' := [.ref 18]) rfl ?_
  refine zi_astore (ls' := _ :: _ :: _ :: _ :: _ :: _ :: some _ :: _) O d_Dia_pushDart_45 rfl (by decide) rfl ?_
  refine zi_aload_n O d_Dia_pushDart_47 rfl ?_
  refine zi_iload_n O d_Dia_pushDart_48 rfl ?_
  refine zi_iconstN O 1 d_Dia_pushDart_49 (by decide) ?_
  first | refine zi_ishrN O 2 2 d_Dia_pushDart_50 (by decide) (by omega) ?_ | refine zi_ishrN O 1 1 d_Dia_pushDart_50 (by decide) (by omega) ?_
  refine zi_aload O d_Dia_pushDart_51 rfl ?_
  refine zi_get O f_Dia_180 d_Dia_pushDart_53 rfl rfl ?_
  refine zi_preV O (diaH ci n (upd L (to_ (a / 2)) (nI v)) S (2 * n) PL LB FR TO AT (FF (nxD fr to_ at_) (4 * n) (4 * n)).2 OF RD ST (rc oc n) (FF (nxE to_ at_) (2 * n) (2 * n)).2 OC CE SL) [cutC (nI (el (a / 2))) (nI u) (nI v)] rfl c_Dia_158 k_Dia_cutEdge (m_Dia_cutEdge (by omega) hE hA (b / 2 ^ 1) v (by omega)) d_Dia_pushDart_56 ⟨(Nat.le_of_ble_eq_true rfl), (Nat.le_of_ble_eq_true rfl)⟩ ⟨(Nat.le_of_ble_eq_true rfl), (Nat.le_of_ble_eq_true rfl)⟩ rfl rfl (Nat.le_of_ble_eq_true rfl) rfl rfl rfl (Nat.le_of_ble_eq_true rfl) rfl rfl (fun r h' hq => ?_) rfl (fun r h' hq hl => ?_)
  · obtain ⟨rfl, rfl⟩ := hq
    exact ⟨rfl, rfl⟩
  obtain ⟨rfl, rfl⟩ := hq
  rw [e3, e4]
  refine zi_st (st' := [.ref 19]) rfl (zi_h (h' := diaH ci n (upd (upd L (to_ (a / 2)) (nI v)) (to_ (b / 2)) (nI z)) S (2 * n) PL LB FR TO AT (FF (nxD fr to_ at_) (4 * n) (4 * n)).2 OF RD ST (rc oc n) (FF (nxE to_ at_) (2 * n) (2 * n)).2 OC CE SL ++ [cutC (nI (el (a / 2))) (nI u) (nI v), cutC (nI (el (b / 2))) (nI w) (nI z)]) rfl ?_)
  refine zi_astore (ls' := _ :: _ :: _ :: _ :: _ :: _ :: _ :: some _ :: _) O d_Dia_pushDart_59 rfl (by decide) rfl ?_
  refine zi_iload_n O d_Dia_pushDart_61 rfl ?_
  refine zi_iload O d_Dia_pushDart_62 rfl ?_
  refine zi_iload O d_Dia_pushDart_64 rfl ?_
  refine zi_icmp_ne O 73 d_Dia_pushDart_66 (by decide) (fun c66 => ?_) (fun c66 => ?_)
  rotate_left
  · exact absurd c66 (by decide)
  refine zi_iconstN O 0 d_Dia_pushDart_73 (by decide) ?_
  refine zi_icmp_ne O 81 d_Dia_pushDart_74 (by decide) (fun c74 => ?_) (fun c74 => ?_)
  rotate_left
  · exact absurd c74 (by decide)
  refine zi_iconst (v := -1) O d_Dia_pushDart_81 (by decide) ?_
  refine zi_istore (ls' := _ :: _ :: _ :: _ :: _ :: _ :: _ :: _ :: some _ :: _) O d_Dia_pushDart_82 rfl (by decide) rfl ?_
  refine zi_iload_n O d_Dia_pushDart_84 rfl ?_
  refine zi_if_eq O 136 d_Dia_pushDart_85 (by decide) (fun c85 => ?_) (fun c85 => ?_)
  · exact absurd c85 (by decide)
  refine zi_aload_n O d_Dia_pushDart_88 rfl ?_
  refine zi_iload O d_Dia_pushDart_89 rfl ?_
  refine zi_aload O d_Dia_pushDart_91 rfl ?_
  refine zi_iload O d_Dia_pushDart_93 rfl ?_
  refine zi_aload O d_Dia_pushDart_95 rfl ?_
  refine zi_iload O d_Dia_pushDart_97 rfl ?_
  refine zi_if_ne O 106 d_Dia_pushDart_99 (by decide) (fun c99 => ?_) (fun c99 => ?_)
  · exact absurd rfl c99
  refine zi_iconstN O 1 d_Dia_pushDart_102 (by decide) ?_
  refine zi_goto O 107 d_Dia_pushDart_103 (by decide) ?_
  refine zi_selfV O c_Dia_162 k_Dia_addCrossing (m_Dia_addCrossing_1 (by omega) (-1) (bI true) (bI true) (nI (el (a / 2))) (nI u) (nI v) (nI (el (b / 2))) (nI w) (nI z)) d_Dia_pushDart_107 ⟨(Nat.le_of_ble_eq_true rfl), (Nat.le_of_ble_eq_true rfl)⟩ ⟨(Nat.le_of_ble_eq_true rfl), (Nat.le_of_ble_eq_true rfl)⟩ rfl rfl (Nat.le_of_ble_eq_true rfl) rfl rfl rfl (Nat.le_of_ble_eq_true rfl) rfl (fun r h' hq hl => ?_)
  obtain ⟨rfl, rfl⟩ := hq
  refine zi_st (st' := []) rfl ?_
  refine zi_aload_n O d_Dia_pushDart_110 rfl ?_
  refine zi_iload O d_Dia_pushDart_111 rfl ?_
  refine zi_ineg O d_Dia_pushDart_113 ?_
  refine zi_aload O d_Dia_pushDart_114 rfl ?_
  refine zi_iload O d_Dia_pushDart_116 rfl ?_
  refine zi_if_ne O 125 d_Dia_pushDart_118 (by decide) (fun c118 => ?_) (fun c118 => ?_)
  rotate_left
  · exact absurd c118 (by decide)
  refine zi_iconstN O 0 d_Dia_pushDart_125 (by decide) ?_
  refine zi_aload O d_Dia_pushDart_126 rfl ?_
  refine zi_iload O d_Dia_pushDart_128 rfl ?_
  refine zi_selfV O c_Dia_162 k_Dia_addCrossing (m_Dia_addCrossing_1 (by omega) (-(-1)) (bI false) (bI false) (nI (el (a / 2))) (nI u) (nI v) (nI (el (b / 2))) (nI w) (nI z)) d_Dia_pushDart_130 ⟨(Nat.le_of_ble_eq_true rfl), (Nat.le_of_ble_eq_true rfl)⟩ ⟨(Nat.le_of_ble_eq_true rfl), (Nat.le_of_ble_eq_true rfl)⟩ rfl rfl (Nat.le_of_ble_eq_true rfl) rfl rfl rfl (Nat.le_of_ble_eq_true rfl) rfl (fun r h' hq hl => ?_)
  obtain ⟨rfl, rfl⟩ := hq
  refine zi_st (st' := []) rfl ?_
  refine zi_goto O 181 d_Dia_pushDart_133 (by decide) ?_
  refine zi_no 6 (ls' := _ :: _ :: _ :: _ :: _ :: _ :: none :: _) rfl ?_
  refine zi_no 7 (ls' := _ :: _ :: _ :: _ :: _ :: _ :: _ :: none :: _) rfl ?_
  refine zi_drop 18 ?_
  have hrow := rowOK_cr (rowOK_cr hR2 (by omega) (-1) true true x1 gu gv y1 gw gz) (by omega) (-(-1)) false false x1 gu gv y1 gw gz
  have hD2 : Dr (n + 1 + 1) (phL true true false (va_up (va_up lab (to_ (a / 2)) v) (to_ (b / 2)) z) n (el (a / 2)) u v (el (b / 2)) w z) (upd (upd S n (-1)) (n + 1) (-(-1))) ci (diaH ci (n + 1 + 1) _ (upd (upd S n (-1)) (n + 1) (-(-1))) (2 * n) PL LB FR TO AT (FF (nxD fr to_ at_) (4 * n) (4 * n)).2 OF RD ST (rc oc n) (FF (nxE to_ at_) (2 * n) (2 * n)).2 OC CE SL) := ⟨_, _, _, _, _, _, _, _, _, _, _, _, _, _, _, _, rfl, hrow, sg_add (sg_add hG (by decide)) (by decide), hz⟩
  refine zi_h (h' := diaH ci (n + 1 + 1) _ (upd (upd S n (-1)) (n + 1) (-(-1))) (2 * n) PL LB FR TO AT (FF (nxD fr to_ at_) (4 * n) (4 * n)).2 OF RD ST (rc oc n) (FF (nxE to_ at_) (2 * n) (2 * n)).2 OC CE SL) rfl ?_
  refine zi_aload_n O d_Dia_pushDart_181 rfl ?_
  refine zi_selfV O c_Dia_104 k_Dia_chart (m_Dia_chart2 hD2) d_Dia_pushDart_182 ⟨(Nat.le_of_ble_eq_true rfl), (Nat.le_of_ble_eq_true rfl)⟩ ⟨(Nat.le_of_ble_eq_true rfl), (Nat.le_of_ble_eq_true rfl)⟩ rfl rfl (Nat.le_of_ble_eq_true rfl) rfl rfl rfl (Nat.le_of_ble_eq_true rfl) rfl (fun r h' hq hl => ?_)
  obtain ⟨⟨x, rfl⟩, hC⟩ := hq
  obtain ⟨L, m, PL, LB, FR, TO, AT, F, OF, RD, ST, pc, co, OC, CE, SL, rfl⟩ := dr_form (chq_dr hC)
  refine zi_st (st' := [.int x]) rfl ?_
  refine zi_pop O d_Dia_pushDart_185 rfl ?_
  refine zi_iconstN O 1 d_Dia_pushDart_186 (by decide) ?_
  refine zi_zret O d_Dia_pushDart_187 rfl (Nat.le_of_ble_eq_true rfl) (Nat.le_of_ble_eq_true rfl) (Nat.le_of_ble_eq_true rfl) ?_
  exact ⟨rfl, hC⟩
set_option maxHeartbeats 2000000 in
theorem m_Dia_pushDart_111 (hD : Dia n lab S ci el fr to_ at_ oc h) (a b : Nat) (ha : a < 4 * n) (hb : b < 4 * n) (hn : n ≤ 18) (hax : a % 2 = 0) (hay : b % 2 = 0) (hm : oc (ca fr to_ a) ≠ oc (ca fr to_ b) ∨ (FF (nxD fr to_ at_) (4 * n) (4 * n)).1 a = (FF (nxD fr to_ at_) (4 * n) (4 * n)).1 b) (u v w z : Nat) (hu : u = fN el 0 (2 * n)) (hv : v = fN el u (2 * n)) (hw : w = fN el v (2 * n)) (hzz : z = fN el w (2 * n)) : zMet y_Dia_pushDart b_Dia_pushDart 9 (some .boolean) ⟨6, 2, 6, 170⟩ [.ref 0, .int (nI a), .int (nI b), .int (bI true)] h
    (fun r h' => r = some (.int (nI 1)) ∧ ChQ (n + 1 + 1) (phL true true true (va_up (va_up lab (to_ (a / 2)) v) (to_ (b / 2)) z) n (el (a / 2)) u v (el (b / 2)) w z) (upd (upd S n (phS true true true)) (n + 1) (-phS true true true)) ci h') := by
  have hD' := hD
  obtain ⟨L, PL, LB, FR, TO, AT, OF, RD, ST, OC, CE, SL, rfl, hR, hG, hz, hE, hA, hRd, hO, hP, hOF⟩ := hD
  have b1 := fN_le el 0 (2 * n)
  have b2 := fN_le el u (2 * n)
  have b3 := fN_le el v (2 * n)
  have b4 := fN_le el w (2 * n)
  rw [← hu] at b1
  rw [← hv] at b2
  rw [← hw] at b3
  rw [← hzz] at b4
  have e1 := (fa_el hR hE hA (a := 0) (by omega)).trans hu.symm
  have e2 := (fa_el hR hE hA (a := u) (by omega)).trans hv.symm
  have e3 := (fa_el hR hE hA (a := v) (by omega)).trans hw.symm
  have e4 := (fa_el hR hE hA (a := w) (by omega)).trans hzz.symm
  have x1 := el_ok hR hE (e := a / 2) (by omega)
  have y1 := el_ok hR hE (e := b / 2) (by omega)
  have gu : 1 ≤ u ∧ u ≤ 9999 := by omega
  have gv : 1 ≤ v ∧ v ≤ 9999 := by omega
  have gw : 1 ≤ w ∧ w ≤ 9999 := by omega
  have gz : 1 ≤ z ∧ z ≤ 9999 := by omega
  have hR2 := rowOK_up (rowOK_up hR (to_ (a / 2)) v (by omega)) (to_ (b / 2)) z (by omega)
  refine zMet_of (plainFor_of_name (by decide +kernel)) rfl (Nat.le_of_ble_eq_true rfl) (fun z1 z2 z3 z4 z5 z6 z7 z8 z9 z10 z11 z12 z13 z14 O hin => ?_)
  refine zi_ls (ls' := [some (.ref 0), some (.int (nI a)), some (.int (nI b)), some (.int (bI true)), none, none, none, none, none]) rfl ?_
  refine zi_aload_n O d_Dia_pushDart_0 rfl ?_
  refine zi_iload_n O d_Dia_pushDart_1 rfl ?_
  refine zi_iload_n O d_Dia_pushDart_2 rfl ?_
  refine zi_selfP O c_Dia_177 k_Dia_canMeet (m_Dia_canMeet hD' a b ha hb) d_Dia_pushDart_3 ⟨(Nat.le_of_ble_eq_true rfl), (Nat.le_of_ble_eq_true rfl)⟩ ⟨(Nat.le_of_ble_eq_true rfl), (Nat.le_of_ble_eq_true rfl)⟩ rfl rfl (Nat.le_of_ble_eq_true rfl) rfl rfl rfl (Nat.le_of_ble_eq_true rfl) rfl ?_
  rw [zb_t hm]
  refine zi_if_ne O 11 d_Dia_pushDart_6 (by decide) (fun c6 => ?_) (fun c6 => ?_)
  rotate_left
  · exact absurd c6 (by decide)
  refine zi_iload_n O d_Dia_pushDart_11 rfl ?_
  refine zi_iconstN O 1 d_Dia_pushDart_12 (by decide) ?_
  first | refine zi_iandN O 1 1 d_Dia_pushDart_13 (by decide) (by omega) ?_ | refine zi_iandN O 3 2 d_Dia_pushDart_13 (by decide) (by omega) ?_ | refine zi_iand O d_Dia_pushDart_13 ?_
  rw [show a % 2 ^ 1 = 0 from hax]
  refine zi_if_ne O 21 d_Dia_pushDart_14 (by decide) (fun c14 => ?_) (fun c14 => ?_)
  · exact absurd rfl c14
  refine zi_iconstN O 1 d_Dia_pushDart_17 (by decide) ?_
  refine zi_goto O 22 d_Dia_pushDart_18 (by decide) ?_
  refine zi_istore (ls' := _ :: _ :: _ :: _ :: some _ :: _) O d_Dia_pushDart_22 rfl (by decide) rfl ?_
  refine zi_iload_n O d_Dia_pushDart_24 rfl ?_
  refine zi_iconstN O 1 d_Dia_pushDart_25 (by decide) ?_
  first | refine zi_iandN O 1 1 d_Dia_pushDart_26 (by decide) (by omega) ?_ | refine zi_iandN O 3 2 d_Dia_pushDart_26 (by decide) (by omega) ?_ | refine zi_iand O d_Dia_pushDart_26 ?_
  rw [show b % 2 ^ 1 = 0 from hay]
  refine zi_if_ne O 34 d_Dia_pushDart_27 (by decide) (fun c27 => ?_) (fun c27 => ?_)
  · exact absurd rfl c27
  refine zi_iconstN O 1 d_Dia_pushDart_30 (by decide) ?_
  refine zi_goto O 35 d_Dia_pushDart_31 (by decide) ?_
  refine zi_istore (ls' := _ :: _ :: _ :: _ :: _ :: some _ :: _) O d_Dia_pushDart_35 rfl (by decide) rfl ?_
  refine zi_aload_n O d_Dia_pushDart_37 rfl ?_
  refine zi_iload_n O d_Dia_pushDart_38 rfl ?_
  refine zi_iconstN O 1 d_Dia_pushDart_39 (by decide) ?_
  first | refine zi_ishrN O 2 2 d_Dia_pushDart_40 (by decide) (by omega) ?_ | refine zi_ishrN O 1 1 d_Dia_pushDart_40 (by decide) (by omega) ?_
  refine zi_iconstN O 0 d_Dia_pushDart_41 (by decide) ?_
  refine zi_selfV O c_Dia_158 k_Dia_cutEdge (m_Dia_cutEdge (by omega) hE hA (a / 2 ^ 1) 0 (by omega)) d_Dia_pushDart_42 ⟨(Nat.le_of_ble_eq_true rfl), (Nat.le_of_ble_eq_true rfl)⟩ ⟨(Nat.le_of_ble_eq_true rfl), (Nat.le_of_ble_eq_true rfl)⟩ rfl rfl (Nat.le_of_ble_eq_true rfl) rfl rfl rfl (Nat.le_of_ble_eq_true rfl) rfl (fun r h' hq hl => ?_)
  obtain ⟨rfl, rfl⟩ := hq
  rw [e1, e2]
  refine zi_st (st' := [.ref 18]) rfl ?_
  refine zi_astore (ls' := _ :: _ :: _ :: _ :: _ :: _ :: some _ :: _) O d_Dia_pushDart_45 rfl (by decide) rfl ?_
  refine zi_aload_n O d_Dia_pushDart_47 rfl ?_
  refine zi_iload_n O d_Dia_pushDart_48 rfl ?_
  refine zi_iconstN O 1 d_Dia_pushDart_49 (by decide) ?_
  first | refine zi_ishrN O 2 2 d_Dia_pushDart_50 (by decide) (by omega) ?_ | refine zi_ishrN O 1 1 d_Dia_pushDart_50 (by decide) (by omega) ?_
  refine zi_aload O d_Dia_pushDart_51 rfl ?_
  refine zi_get O f_Dia_180 d_Dia_pushDart_53 rfl rfl ?_
  refine zi_preV O (diaH ci n (upd L (to_ (a / 2)) (nI v)) S (2 * n) PL LB FR TO AT (FF (nxD fr to_ at_) (4 * n) (4 * n)).2 OF RD ST (rc oc n) (FF (nxE to_ at_) (2 * n) (2 * n)).2 OC CE SL) [cutC (nI (el (a / 2))) (nI u) (nI v)] rfl c_Dia_158 k_Dia_cutEdge (m_Dia_cutEdge (by omega) hE hA (b / 2 ^ 1) v (by omega)) d_Dia_pushDart_56 ⟨(Nat.le_of_ble_eq_true rfl), (Nat.le_of_ble_eq_true rfl)⟩ ⟨(Nat.le_of_ble_eq_true rfl), (Nat.le_of_ble_eq_true rfl)⟩ rfl rfl (Nat.le_of_ble_eq_true rfl) rfl rfl rfl (Nat.le_of_ble_eq_true rfl) rfl rfl (fun r h' hq => ?_) rfl (fun r h' hq hl => ?_)
  · obtain ⟨rfl, rfl⟩ := hq
    exact ⟨rfl, rfl⟩
  obtain ⟨rfl, rfl⟩ := hq
  rw [e3, e4]
  refine zi_st (st' := [.ref 19]) rfl (zi_h (h' := diaH ci n (upd (upd L (to_ (a / 2)) (nI v)) (to_ (b / 2)) (nI z)) S (2 * n) PL LB FR TO AT (FF (nxD fr to_ at_) (4 * n) (4 * n)).2 OF RD ST (rc oc n) (FF (nxE to_ at_) (2 * n) (2 * n)).2 OC CE SL ++ [cutC (nI (el (a / 2))) (nI u) (nI v), cutC (nI (el (b / 2))) (nI w) (nI z)]) rfl ?_)
  refine zi_astore (ls' := _ :: _ :: _ :: _ :: _ :: _ :: _ :: some _ :: _) O d_Dia_pushDart_59 rfl (by decide) rfl ?_
  refine zi_iload_n O d_Dia_pushDart_61 rfl ?_
  refine zi_iload O d_Dia_pushDart_62 rfl ?_
  refine zi_iload O d_Dia_pushDart_64 rfl ?_
  refine zi_icmp_ne O 73 d_Dia_pushDart_66 (by decide) (fun c66 => ?_) (fun c66 => ?_)
  · exact absurd rfl c66
  refine zi_iconstN O 1 d_Dia_pushDart_69 (by decide) ?_
  refine zi_goto O 74 d_Dia_pushDart_70 (by decide) ?_
  refine zi_icmp_ne O 81 d_Dia_pushDart_74 (by decide) (fun c74 => ?_) (fun c74 => ?_)
  · exact absurd rfl c74
  refine zi_iconstN O 1 d_Dia_pushDart_77 (by decide) ?_
  refine zi_goto O 82 d_Dia_pushDart_78 (by decide) ?_
  refine zi_istore (ls' := _ :: _ :: _ :: _ :: _ :: _ :: _ :: _ :: some _ :: _) O d_Dia_pushDart_82 rfl (by decide) rfl ?_
  refine zi_iload_n O d_Dia_pushDart_84 rfl ?_
  refine zi_if_eq O 136 d_Dia_pushDart_85 (by decide) (fun c85 => ?_) (fun c85 => ?_)
  · exact absurd c85 (by decide)
  refine zi_aload_n O d_Dia_pushDart_88 rfl ?_
  refine zi_iload O d_Dia_pushDart_89 rfl ?_
  refine zi_aload O d_Dia_pushDart_91 rfl ?_
  refine zi_iload O d_Dia_pushDart_93 rfl ?_
  refine zi_aload O d_Dia_pushDart_95 rfl ?_
  refine zi_iload O d_Dia_pushDart_97 rfl ?_
  refine zi_if_ne O 106 d_Dia_pushDart_99 (by decide) (fun c99 => ?_) (fun c99 => ?_)
  rotate_left
  · exact absurd c99 (by decide)
  refine zi_iconstN O 0 d_Dia_pushDart_106 (by decide) ?_
  refine zi_selfV O c_Dia_162 k_Dia_addCrossing (m_Dia_addCrossing_1 (by omega) (nI 1) (bI true) (bI false) (nI (el (a / 2))) (nI u) (nI v) (nI (el (b / 2))) (nI w) (nI z)) d_Dia_pushDart_107 ⟨(Nat.le_of_ble_eq_true rfl), (Nat.le_of_ble_eq_true rfl)⟩ ⟨(Nat.le_of_ble_eq_true rfl), (Nat.le_of_ble_eq_true rfl)⟩ rfl rfl (Nat.le_of_ble_eq_true rfl) rfl rfl rfl (Nat.le_of_ble_eq_true rfl) rfl (fun r h' hq hl => ?_)
  obtain ⟨rfl, rfl⟩ := hq
  refine zi_st (st' := []) rfl ?_
  refine zi_aload_n O d_Dia_pushDart_110 rfl ?_
  refine zi_iload O d_Dia_pushDart_111 rfl ?_
  refine zi_ineg O d_Dia_pushDart_113 ?_
  refine zi_aload O d_Dia_pushDart_114 rfl ?_
  refine zi_iload O d_Dia_pushDart_116 rfl ?_
  refine zi_if_ne O 125 d_Dia_pushDart_118 (by decide) (fun c118 => ?_) (fun c118 => ?_)
  rotate_left
  · exact absurd c118 (by decide)
  refine zi_iconstN O 0 d_Dia_pushDart_125 (by decide) ?_
  refine zi_aload O d_Dia_pushDart_126 rfl ?_
  refine zi_iload O d_Dia_pushDart_128 rfl ?_
  refine zi_selfV O c_Dia_162 k_Dia_addCrossing (m_Dia_addCrossing_1 (by omega) (-(nI 1)) (bI false) (bI true) (nI (el (a / 2))) (nI u) (nI v) (nI (el (b / 2))) (nI w) (nI z)) d_Dia_pushDart_130 ⟨(Nat.le_of_ble_eq_true rfl), (Nat.le_of_ble_eq_true rfl)⟩ ⟨(Nat.le_of_ble_eq_true rfl), (Nat.le_of_ble_eq_true rfl)⟩ rfl rfl (Nat.le_of_ble_eq_true rfl) rfl rfl rfl (Nat.le_of_ble_eq_true rfl) rfl (fun r h' hq hl => ?_)
  obtain ⟨rfl, rfl⟩ := hq
  refine zi_st (st' := []) rfl ?_
  refine zi_goto O 181 d_Dia_pushDart_133 (by decide) ?_
  refine zi_no 6 (ls' := _ :: _ :: _ :: _ :: _ :: _ :: none :: _) rfl ?_
  refine zi_no 7 (ls' := _ :: _ :: _ :: _ :: _ :: _ :: _ :: none :: _) rfl ?_
  refine zi_drop 18 ?_
  have hrow := rowOK_cr (rowOK_cr hR2 (by omega) (nI 1) true false x1 gu gv y1 gw gz) (by omega) (-(nI 1)) false true x1 gu gv y1 gw gz
  have hD2 : Dr (n + 1 + 1) (phL true true true (va_up (va_up lab (to_ (a / 2)) v) (to_ (b / 2)) z) n (el (a / 2)) u v (el (b / 2)) w z) (upd (upd S n (nI 1)) (n + 1) (-(nI 1))) ci (diaH ci (n + 1 + 1) _ (upd (upd S n (nI 1)) (n + 1) (-(nI 1))) (2 * n) PL LB FR TO AT (FF (nxD fr to_ at_) (4 * n) (4 * n)).2 OF RD ST (rc oc n) (FF (nxE to_ at_) (2 * n) (2 * n)).2 OC CE SL) := ⟨_, _, _, _, _, _, _, _, _, _, _, _, _, _, _, _, rfl, hrow, sg_add (sg_add hG (by decide)) (by decide), hz⟩
  refine zi_h (h' := diaH ci (n + 1 + 1) _ (upd (upd S n (nI 1)) (n + 1) (-(nI 1))) (2 * n) PL LB FR TO AT (FF (nxD fr to_ at_) (4 * n) (4 * n)).2 OF RD ST (rc oc n) (FF (nxE to_ at_) (2 * n) (2 * n)).2 OC CE SL) rfl ?_
  refine zi_aload_n O d_Dia_pushDart_181 rfl ?_
  refine zi_selfV O c_Dia_104 k_Dia_chart (m_Dia_chart2 hD2) d_Dia_pushDart_182 ⟨(Nat.le_of_ble_eq_true rfl), (Nat.le_of_ble_eq_true rfl)⟩ ⟨(Nat.le_of_ble_eq_true rfl), (Nat.le_of_ble_eq_true rfl)⟩ rfl rfl (Nat.le_of_ble_eq_true rfl) rfl rfl rfl (Nat.le_of_ble_eq_true rfl) rfl (fun r h' hq hl => ?_)
  obtain ⟨⟨x, rfl⟩, hC⟩ := hq
  obtain ⟨L, m, PL, LB, FR, TO, AT, F, OF, RD, ST, pc, co, OC, CE, SL, rfl⟩ := dr_form (chq_dr hC)
  refine zi_st (st' := [.int x]) rfl ?_
  refine zi_pop O d_Dia_pushDart_185 rfl ?_
  refine zi_iconstN O 1 d_Dia_pushDart_186 (by decide) ?_
  refine zi_zret O d_Dia_pushDart_187 rfl (Nat.le_of_ble_eq_true rfl) (Nat.le_of_ble_eq_true rfl) (Nat.le_of_ble_eq_true rfl) ?_
  exact ⟨rfl, hC⟩
theorem m_Dia_pushDart (hD : Dia n lab S ci el fr to_ at_ oc h) (ov : Bool) (a b : Nat) (ha : a < 4 * n) (hb : b < 4 * n) (hn : n ≤ 18) (hm : oc (ca fr to_ a) ≠ oc (ca fr to_ b) ∨ (FF (nxD fr to_ at_) (4 * n) (4 * n)).1 a = (FF (nxD fr to_ at_) (4 * n) (4 * n)).1 b) (u v w z : Nat) (hu : u = fN el 0 (2 * n)) (hv : v = fN el u (2 * n)) (hw : w = fN el v (2 * n)) (hzz : z = fN el w (2 * n)) : zMet y_Dia_pushDart b_Dia_pushDart 9 (some .boolean) ⟨6, 2, 6, 170⟩ [.ref 0, .int (nI a), .int (nI b), .int (bI ov)] h
    (fun r h' => r = some (.int (nI 1)) ∧ ChQ (n + 1 + 1) (phL ov (decide (a % 2 = 0)) (decide (b % 2 = 0)) (va_up (va_up lab (to_ (a / 2)) v) (to_ (b / 2)) z) n (el (a / 2)) u v (el (b / 2)) w z) (upd (upd S n (phS ov (decide (a % 2 = 0)) (decide (b % 2 = 0)))) (n + 1) (-phS ov (decide (a % 2 = 0)) (decide (b % 2 = 0)))) ci h') := by
  rcases Nat.mod_two_eq_zero_or_one a with q | q <;> rcases Nat.mod_two_eq_zero_or_one b with r | r <;> cases ov <;> simp only [q, r, decide_true, Nat.one_ne_zero, decide_false]
  · exact m_Dia_pushDart_011 hD a b ha hb hn q r hm u v w z hu hv hw hzz
  · exact m_Dia_pushDart_111 hD a b ha hb hn q r hm u v w z hu hv hw hzz
  · exact m_Dia_pushDart_010 hD a b ha hb hn q r hm u v w z hu hv hw hzz
  · exact m_Dia_pushDart_110 hD a b ha hb hn q r hm u v w z hu hv hw hzz
  · exact m_Dia_pushDart_001 hD a b ha hb hn q r hm u v w z hu hv hw hzz
  · exact m_Dia_pushDart_101 hD a b ha hb hn q r hm u v w z hu hv hw hzz
  · exact m_Dia_pushDart_000 hD a b ha hb hn q r hm u v w z hu hv hw hzz
  · exact m_Dia_pushDart_100 hD a b ha hb hn q r hm u v w z hu hv hw hzz
end
