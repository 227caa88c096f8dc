/-! DiagramMoves.push -/
def dI (g : Bool) : Nat := if g then 1 else 0
theorem dI_le (g : Bool) : dI g ≤ 1 := by cases g <;> decide
section
variable {n k : Nat} {lab plab : Nat → Nat} {S T : Nat → Int32} {ci cj : Int32} {el fr to_ at_ oc : Nat → Nat} {h : List zE}
theorem wl_tot {L PL LB FR TO AT : Nat → Int32} (hR : RowOK n L lab) (hE : Ed n lab S el fr to_ at_) (hA : EdA n el fr to_ at_ LB FR TO AT) (x : Int32) : ∃ r : Int32, zPu y_Edg_withLabel b_Edg_withLabel 3 (some .int) ⟨0, 0, 0, 0⟩ [.ref 0, .int x] (edgH (2 * n) PL LB FR TO AT) (.int r) ∧ ((∃ e, e < 2 * n ∧ x = nI (el e) ∧ r = nI e) ∨ ((∀ e, e < 2 * n → ¬ x = nI (el e)) ∧ r = -1)) := by
  have hn := hR.1
  by_cases c : ∃ e, e < 2 * n ∧ x = nI (el e)
  · obtain ⟨e, he, rfl⟩ := c
    refine ⟨nI e, m_Edg_withLabel (2 * n) PL LB FR TO AT (nI (el e)) (by omega) e he (hA.1 e he).1 (fun j hj z => ?_), Or.inl ⟨e, he, rfl, rfl⟩⟩
    rw [(hA.1 j (by omega)).1] at z
    have b1 := el_ok hR hE (e := j) (by omega)
    have b2 := el_ok hR hE he
    have := (nI_eq (by omega) (by omega)).mp z
    have := hE.2.1 j e hj he
    omega
  · exact ⟨-1, m_Edg_withLabel_no (2 * n) PL LB FR TO AT x (by omega) (fun j hj z => c ⟨j, hj, by rw [← z]; exact (hA.1 j hj).1⟩), Or.inr ⟨fun e he z => c ⟨e, he, z⟩, rfl⟩⟩
def meet (n : Nat) (fr to_ at_ oc : Nat → Nat) (a b : Nat) : Prop := oc (ca fr to_ a) ≠ oc (ca fr to_ b) ∨ (FF (nxD fr to_ at_) (4 * n) (4 * n)).1 a = (FF (nxD fr to_ at_) (4 * n) (4 * n)).1 b
def PushOK (n : Nat) (el fr to_ at_ oc : Nat → Nat) (x y : Int32) (gx gy : Bool) (e f : Nat) : Prop := e < 2 * n ∧ f < 2 * n ∧ x = nI (el e) ∧ y = nI (el f) ∧ e ≠ f ∧ n ≤ 18 ∧ meet n fr to_ at_ oc (2 * e + dI gx) (2 * f + dI gy)
theorem el_uniq {L : Nat → Int32} (hR : RowOK n L lab) (hE : Ed n lab S el fr to_ at_) {i j : Nat} (hi : i < 2 * n) (hj : j < 2 * n) (h : nI (el i) = nI (el j)) : i = j := by
  have b1 := el_ok hR hE hi
  have b2 := el_ok hR hE hj
  exact ed_inj hE hi hj ((nI_eq (by omega) (by omega)).mp h)
set_option maxHeartbeats 2000000 in
theorem m_Mov_push_00_1 {hA hB : List zE} (hP0 : Dia n lab S ci el fr to_ at_ oc hA) (hR0 : Dr k plab T cj hB) (x y : Int32) (ov : Bool) (u v w z : Nat) (hu : u = fN el 0 (2 * n)) (hv : v = fN el u (2 * n)) (hw : w = fN el v (2 * n)) (hzz : z = fN el w (2 * n)) : zMet y_Mov_push b_Mov_push 8 (some .boolean) ⟨7, 2, 6, 200⟩ [.ref 0, .int x, .int (bI false), .int y, .int (bI false), .int (bI ov)] (movH 1 19 hA hB)
    (fun r h' => (r = some (.int (nI 0)) ∧ h' = movH 1 19 hA hB ∧ ∀ e f, ¬ PushOK n el fr to_ at_ oc x y false false e f) ∨ (∃ e f, PushOK n el fr to_ at_ oc x y false false e f ∧ r = some (.int (nI 1)) ∧ Mv (ChQ (n + 1 + 1) (phL ov (decide ((2 * e + dI false) % 2 = 0)) (decide ((2 * f + dI false) % 2 = 0)) (va_up (va_up lab (to_ ((2 * e + dI false) / 2)) v) (to_ ((2 * f + dI false) / 2)) z) n (el ((2 * e + dI false) / 2)) u v (el ((2 * f + dI false) / 2)) w z) (upd (upd S n (phS ov (decide ((2 * e + dI false) % 2 = 0)) (decide ((2 * f + dI false) % 2 = 0)))) (n + 1) (-phS ov (decide ((2 * e + dI false) % 2 = 0)) (decide ((2 * f + dI false) % 2 = 0)))) ci) (Dr k plab T cj) h')) := by
  have hPk := hP0
  have hRk := hR0
  obtain ⟨L, PL, LB, FR, TO, AT, OF, RD, ST, OC, CE, SL, rfl, hR, hG, hz, hE, hA, hRd, hO, hP, hOF⟩ := hP0
  have hn := hR.1
  have hFF := ff_le (by omega) (perm_D hE) (Nat.le_refl (4 * n))
  obtain ⟨L', m', PL', LB', FR', TO', AT', F', OF', RD', ST', pc', co', OC', CE', SL', rfl, hR', hG', hz'⟩ := hR0
  obtain ⟨r6, m6, k6⟩ := wl_tot (PL := PL) hR hE hA x
  obtain ⟨r7, m7, k7⟩ := wl_tot (PL := PL) hR hE hA y
  refine zMet_of (plainFor_of_name (by decide +kernel)) rfl (Nat.le_of_ble_eq_true rfl) (fun z1 z2 z3 z4 z5 z6 z7 z8 z9 z10 z11 z12 z13 z14 O hin => ?_)
  refine zi_ls (ls' := [some (.ref 0), some (.int x), some (.int (bI false)), some (.int y), some (.int (bI false)), some (.int (bI ov)), none, none]) rfl ?_
  refine zi_aload_n O d_Mov_push_0 rfl ?_
  refine zi_get O f_Mov_12 d_Mov_push_1 rfl rfl ?_
  refine zi_get O f_Mov_71 d_Mov_push_4 rfl rfl ?_
  refine zi_iload_n O d_Mov_push_7 rfl ?_
  refine zi_pureV O [5, 6, 7, 8, 9, 10] c_Mov_118 k_Edg_withLabel m6 d_Mov_push_8 ⟨(Nat.le_of_ble_eq_true rfl), (Nat.le_of_ble_eq_true rfl)⟩ ⟨(Nat.le_of_ble_eq_true rfl), (Nat.le_of_ble_eq_true rfl)⟩ rfl rfl (Nat.le_of_ble_eq_true rfl) rfl rfl rfl rfl rfl (Nat.le_of_ble_eq_true rfl) rfl ?_
  refine zi_istore (ls' := _ :: _ :: _ :: _ :: _ :: _ :: some _ :: _) O d_Mov_push_11 rfl (by decide) rfl ?_
  refine zi_aload_n O d_Mov_push_13 rfl ?_
  refine zi_get O f_Mov_12 d_Mov_push_14 rfl rfl ?_
  refine zi_get O f_Mov_71 d_Mov_push_17 rfl rfl ?_
  refine zi_iload_n O d_Mov_push_20 rfl ?_
  refine zi_pureV O [5, 6, 7, 8, 9, 10] c_Mov_118 k_Edg_withLabel m7 d_Mov_push_21 ⟨(Nat.le_of_ble_eq_true rfl), (Nat.le_of_ble_eq_true rfl)⟩ ⟨(Nat.le_of_ble_eq_true rfl), (Nat.le_of_ble_eq_true rfl)⟩ rfl rfl (Nat.le_of_ble_eq_true rfl) rfl rfl rfl rfl rfl (Nat.le_of_ble_eq_true rfl) rfl ?_
  refine zi_istore (ls' := _ :: _ :: _ :: _ :: _ :: _ :: _ :: some _ :: _) O d_Mov_push_24 rfl (by decide) rfl ?_
  refine zi_iload O d_Mov_push_26 rfl ?_
  refine zi_if_lt O 58 d_Mov_push_28 (by decide) (fun c28 => ?_) (fun c28 => ?_)
  · refine zi_iconstN O 0 d_Mov_push_58 (by decide) ?_
    refine zi_widen (Nat.zero_le 2) (Nat.zero_le 6) ?_
    refine zi_zret O d_Mov_push_59 rfl (Nat.le_of_ble_eq_true rfl) (Nat.le_of_ble_eq_true rfl) (Nat.le_of_ble_eq_true rfl) ?_
    refine Or.inl ⟨rfl, rfl, fun e f q => ?_⟩
    rcases k6 with ⟨e', he, -, rfl⟩ | ⟨k6, -⟩
    · exact nI_pos (by omega) c28
    · exact k6 e q.1 q.2.2.1
  · rcases k6 with ⟨e, he, rfl, rfl⟩ | ⟨-, rfl⟩
    rotate_left
    · exact absurd (by decide) c28
    refine zi_iload O d_Mov_push_31 rfl ?_
    refine zi_if_lt O 58 d_Mov_push_33 (by decide) (fun c33 => ?_) (fun c33 => ?_)
    · refine zi_iconstN O 0 d_Mov_push_58 (by decide) ?_
      refine zi_widen (Nat.zero_le 2) (Nat.zero_le 6) ?_
      refine zi_zret O d_Mov_push_59 rfl (Nat.le_of_ble_eq_true rfl) (Nat.le_of_ble_eq_true rfl) (Nat.le_of_ble_eq_true rfl) ?_
      refine Or.inl ⟨rfl, rfl, fun e f q => ?_⟩
      rcases k7 with ⟨e', he, -, rfl⟩ | ⟨k7, -⟩
      · exact nI_pos (by omega) c33
      · exact k7 f q.2.1 q.2.2.2.1
    · rcases k7 with ⟨f, hf, rfl, rfl⟩ | ⟨-, rfl⟩
      rotate_left
      · exact absurd (by decide) c33
      refine zi_iload O d_Mov_push_36 rfl ?_
      refine zi_iload O d_Mov_push_38 rfl ?_
      refine zi_icmp_eqN O 58 d_Mov_push_40 (by decide) (by omega) (by omega) (fun c40 => ?_) (fun c40 => ?_)
      · refine zi_iconstN O 0 d_Mov_push_58 (by decide) ?_
        refine zi_widen (Nat.zero_le 2) (Nat.zero_le 6) ?_
        refine zi_zret O d_Mov_push_59 rfl (Nat.le_of_ble_eq_true rfl) (Nat.le_of_ble_eq_true rfl) (Nat.le_of_ble_eq_true rfl) ?_
        refine Or.inl ⟨rfl, rfl, fun e' f' q => ?_⟩
        obtain ⟨q1, q2, q3, q4, q5, -⟩ := q
        have a1 := el_uniq hR hE he q1 q3
        have a2 := el_uniq hR hE hf q2 q4
        omega
      · refine zi_aload_n O d_Mov_push_43 rfl ?_
        refine zi_get O f_Mov_12 d_Mov_push_44 rfl rfl ?_
        refine zi_get O f_Mov_26 d_Mov_push_47 rfl rfl ?_
        refine zi_get O f_Mov_40 d_Mov_push_50 rfl rfl ?_
        refine zi_bipushN O 18 d_Mov_push_53 (by decide) ?_
        refine zi_icmp_leN O 60 d_Mov_push_55 (by decide) (by omega) (by omega) (fun c55 => ?_) (fun c55 => ?_)
        rotate_left
        · refine zi_iconstN O 0 d_Mov_push_58 (by decide) ?_
          refine zi_widen (Nat.zero_le 2) (Nat.zero_le 6) ?_
          refine zi_zret O d_Mov_push_59 rfl (Nat.le_of_ble_eq_true rfl) (Nat.le_of_ble_eq_true rfl) (Nat.le_of_ble_eq_true rfl) ?_
          exact Or.inl ⟨rfl, rfl, fun e' f' q => by have := q.2.2.2.2.2.1; omega⟩
        refine zi_aload_n O d_Mov_push_60 rfl ?_
        refine zi_get O f_Mov_12 d_Mov_push_61 rfl rfl ?_
        refine zi_iconstN O 2 d_Mov_push_64 (by decide) ?_
        refine zi_iload O d_Mov_push_65 rfl ?_
        first | refine zi_imulN O d_Mov_push_67 ?_ | refine zi_imul O d_Mov_push_67 ?_
        refine zi_iload_n O d_Mov_push_68 rfl ?_
        refine zi_if_eq O 76 d_Mov_push_69 (by decide) (fun c69 => ?_) (fun c69 => ?_)
        rotate_left
        · exact absurd rfl c69
        refine zi_iconstN O 0 d_Mov_push_76 (by decide) ?_
        first | refine zi_iaddN O d_Mov_push_77 ?_ | refine zi_iadd O d_Mov_push_77 ?_
        refine zi_iconstN O 2 d_Mov_push_78 (by decide) ?_
        refine zi_iload O d_Mov_push_79 rfl ?_
        first | refine zi_imulN O d_Mov_push_81 ?_ | refine zi_imul O d_Mov_push_81 ?_
        refine zi_iload O d_Mov_push_82 rfl ?_
        refine zi_if_eq O 91 d_Mov_push_84 (by decide) (fun c84 => ?_) (fun c84 => ?_)
        rotate_left
        · exact absurd rfl c84
        refine zi_iconstN O 0 d_Mov_push_91 (by decide) ?_
        first | refine zi_iaddN O d_Mov_push_92 ?_ | refine zi_iadd O d_Mov_push_92 ?_
        refine zi_iload O d_Mov_push_93 rfl ?_
        by_cases hm : meet n fr to_ at_ oc (2 * e + dI false) (2 * f + dI false)
        · refine zi_blkV O 1 ([zo 0 [.ref 1, .ref 19]]) (diaH ci n L S (2 * n) PL LB FR TO AT (FF (nxD fr to_ at_) (4 * n) (4 * n)).2 OF RD ST (rc oc n) (FF (nxE to_ at_) (2 * n) (2 * n)).2 OC CE SL) ((diaH cj k L' T m' PL' LB' FR' TO' AT' F' OF' RD' ST' pc' co' OC' CE' SL').map (zc (fun q => q + 19))) rfl rfl c_Mov_121 k_Dia_pushDart (m_Dia_pushDart hPk ov (2 * e + dI false) (2 * f + dI false) (by have h1 := dI_le true; have h2 := dI_le false; omega) (by have h1 := dI_le true; have h2 := dI_le false; omega) c55 hm u v w z hu hv hw hzz) d_Mov_push_95 ⟨(Nat.le_of_ble_eq_true rfl), (Nat.le_of_ble_eq_true rfl)⟩ ⟨(Nat.le_of_ble_eq_true rfl), (Nat.le_of_ble_eq_true rfl)⟩ rfl rfl (Nat.le_of_ble_eq_true rfl) rfl rfl rfl (Nat.le_of_ble_eq_true rfl) rfl rfl (fun r h' hq => ?_) rfl (fun r h' hq => ?_)
          · exact chq_blk hq.2 rfl
          · obtain ⟨rfl, hC⟩ := hq
            have hC1 := hC
            obtain ⟨X1, x2, X3, X4, X5, X6, X7, x8, X9, X10, X11, x12, x13, X14, X15, X16, rfl⟩ := dr_form (chq_dr hC1)
            refine zi_st (st' := [.int (nI 1)]) rfl (zi_h (h' := movH 1 19 (diaH ci (n + 1 + 1) X1 (upd (upd S n (phS ov (decide ((2 * e + dI false) % 2 = 0)) (decide ((2 * f + dI false) % 2 = 0)))) (n + 1) (-phS ov (decide ((2 * e + dI false) % 2 = 0)) (decide ((2 * f + dI false) % 2 = 0)))) x2 X3 X4 X5 X6 X7 x8 X9 X10 X11 x12 x13 X14 X15 X16) (diaH cj k L' T m' PL' LB' FR' TO' AT' F' OF' RD' ST' pc' co' OC' CE' SL')) rfl ?_)
            refine zi_zret O d_Mov_push_98 rfl (Nat.le_of_ble_eq_true rfl) (Nat.le_of_ble_eq_true rfl) (Nat.le_of_ble_eq_true rfl) ?_
            exact Or.inr ⟨e, f, ⟨he, hf, rfl, rfl, c40, c55, hm⟩, rfl, Or.inl ⟨_, _, hC, hRk, rfl⟩⟩
        · refine zi_blkP O 1 ([zo 0 [.ref 1, .ref 19]]) (diaH ci n L S (2 * n) PL LB FR TO AT (FF (nxD fr to_ at_) (4 * n) (4 * n)).2 OF RD ST (rc oc n) (FF (nxE to_ at_) (2 * n) (2 * n)).2 OC CE SL) ((diaH cj k L' T m' PL' LB' FR' TO' AT' F' OF' RD' ST' pc' co' OC' CE' SL').map (zc (fun q => q + 19))) rfl rfl c_Mov_121 k_Dia_pushDart (m_Dia_pushDart_no hPk (2 * e + dI false) (2 * f + dI false) (bI ov) (by have h1 := dI_le true; have h2 := dI_le false; omega) (by have h1 := dI_le true; have h2 := dI_le false; omega) hm) d_Mov_push_95 ⟨(Nat.le_of_ble_eq_true rfl), (Nat.le_of_ble_eq_true rfl)⟩ ⟨(Nat.le_of_ble_eq_true rfl), (Nat.le_of_ble_eq_true rfl)⟩ rfl rfl (Nat.le_of_ble_eq_true rfl) rfl rfl rfl (Nat.le_of_ble_eq_true rfl) rfl rfl rfl ?_
          refine zi_widen (Nat.zero_le 2) (Nat.zero_le 6) ?_
          refine zi_zret O d_Mov_push_98 rfl (Nat.le_of_ble_eq_true rfl) (Nat.le_of_ble_eq_true rfl) (Nat.le_of_ble_eq_true rfl) ?_
          refine Or.inl ⟨rfl, rfl, fun e' f' q => ?_⟩
          obtain ⟨q1, q2, q3, q4, q5, q6, q7⟩ := q
          have a1 := el_uniq hR hE he q1 q3
          have a2 := el_uniq hR hE hf q2 q4
          subst a1
          subst a2
          exact hm q7
set_option maxHeartbeats 2000000 in
theorem m_Mov_push_01_1 {hA hB : List zE} (hP0 : Dia n lab S ci el fr to_ at_ oc hA) (hR0 : Dr k plab T cj hB) (x y : Int32) (ov : Bool) (u v w z : Nat) (hu : u = fN el 0 (2 * n)) (hv : v = fN el u (2 * n)) (hw : w = fN el v (2 * n)) (hzz : z = fN el w (2 * n)) : zMet y_Mov_push b_Mov_push 8 (some .boolean) ⟨7, 2, 6, 200⟩ [.ref 0, .int x, .int (bI false), .int y, .int (bI true), .int (bI ov)] (movH 1 19 hA hB)
    (fun r h' => (r = some (.int (nI 0)) ∧ h' = movH 1 19 hA hB ∧ ∀ e f, ¬ PushOK n el fr to_ at_ oc x y false true e f) ∨ (∃ e f, PushOK n el fr to_ at_ oc x y false true e f ∧ r = some (.int (nI 1)) ∧ Mv (ChQ (n + 1 + 1) (phL ov (decide ((2 * e + dI false) % 2 = 0)) (decide ((2 * f + dI true) % 2 = 0)) (va_up (va_up lab (to_ ((2 * e + dI false) / 2)) v) (to_ ((2 * f + dI true) / 2)) z) n (el ((2 * e + dI false) / 2)) u v (el ((2 * f + dI true) / 2)) w z) (upd (upd S n (phS ov (decide ((2 * e + dI false) % 2 = 0)) (decide ((2 * f + dI true) % 2 = 0)))) (n + 1) (-phS ov (decide ((2 * e + dI false) % 2 = 0)) (decide ((2 * f + dI true) % 2 = 0)))) ci) (Dr k plab T cj) h')) := by
  have hPk := hP0
  have hRk := hR0
  obtain ⟨L, PL, LB, FR, TO, AT, OF, RD, ST, OC, CE, SL, rfl, hR, hG, hz, hE, hA, hRd, hO, hP, hOF⟩ := hP0
  have hn := hR.1
  have hFF := ff_le (by omega) (perm_D hE) (Nat.le_refl (4 * n))
  obtain ⟨L', m', PL', LB', FR', TO', AT', F', OF', RD', ST', pc', co', OC', CE', SL', rfl, hR', hG', hz'⟩ := hR0
  obtain ⟨r6, m6, k6⟩ := wl_tot (PL := PL) hR hE hA x
  obtain ⟨r7, m7, k7⟩ := wl_tot (PL := PL) hR hE hA y
  refine zMet_of (plainFor_of_name (by decide +kernel)) rfl (Nat.le_of_ble_eq_true rfl) (fun z1 z2 z3 z4 z5 z6 z7 z8 z9 z10 z11 z12 z13 z14 O hin => ?_)
  refine zi_ls (ls' := [some (.ref 0), some (.int x), some (.int (bI false)), some (.int y), some (.int (bI true)), some (.int (bI ov)), none, none]) rfl ?_
  refine zi_aload_n O d_Mov_push_0 rfl ?_
  refine zi_get O f_Mov_12 d_Mov_push_1 rfl rfl ?_
  refine zi_get O f_Mov_71 d_Mov_push_4 rfl rfl ?_
  refine zi_iload_n O d_Mov_push_7 rfl ?_
  refine zi_pureV O [5, 6, 7, 8, 9, 10] c_Mov_118 k_Edg_withLabel m6 d_Mov_push_8 ⟨(Nat.le_of_ble_eq_true rfl), (Nat.le_of_ble_eq_true rfl)⟩ ⟨(Nat.le_of_ble_eq_true rfl), (Nat.le_of_ble_eq_true rfl)⟩ rfl rfl (Nat.le_of_ble_eq_true rfl) rfl rfl rfl rfl rfl (Nat.le_of_ble_eq_true rfl) rfl ?_
  refine zi_istore (ls' := _ :: _ :: _ :: _ :: _ :: _ :: some _ :: _) O d_Mov_push_11 rfl (by decide) rfl ?_
  refine zi_aload_n O d_Mov_push_13 rfl ?_
  refine zi_get O f_Mov_12 d_Mov_push_14 rfl rfl ?_
  refine zi_get O f_Mov_71 d_Mov_push_17 rfl rfl ?_
  refine zi_iload_n O d_Mov_push_20 rfl ?_
  refine zi_pureV O [5, 6, 7, 8, 9, 10] c_Mov_118 k_Edg_withLabel m7 d_Mov_push_21 ⟨(Nat.le_of_ble_eq_true rfl), (Nat.le_of_ble_eq_true rfl)⟩ ⟨(Nat.le_of_ble_eq_true rfl), (Nat.le_of_ble_eq_true rfl)⟩ rfl rfl (Nat.le_of_ble_eq_true rfl) rfl rfl rfl rfl rfl (Nat.le_of_ble_eq_true rfl) rfl ?_
  refine zi_istore (ls' := _ :: _ :: _ :: _ :: _ :: _ :: _ :: some _ :: _) O d_Mov_push_24 rfl (by decide) rfl ?_
  refine zi_iload O d_Mov_push_26 rfl ?_
  refine zi_if_lt O 58 d_Mov_push_28 (by decide) (fun c28 => ?_) (fun c28 => ?_)
  · refine zi_iconstN O 0 d_Mov_push_58 (by decide) ?_
    refine zi_widen (Nat.zero_le 2) (Nat.zero_le 6) ?_
    refine zi_zret O d_Mov_push_59 rfl (Nat.le_of_ble_eq_true rfl) (Nat.le_of_ble_eq_true rfl) (Nat.le_of_ble_eq_true rfl) ?_
    refine Or.inl ⟨rfl, rfl, fun e f q => ?_⟩
    rcases k6 with ⟨e', he, -, rfl⟩ | ⟨k6, -⟩
    · exact nI_pos (by omega) c28
    · exact k6 e q.1 q.2.2.1
  · rcases k6 with ⟨e, he, rfl, rfl⟩ | ⟨-, rfl⟩
    rotate_left
    · exact absurd (by decide) c28
    refine zi_iload O d_Mov_push_31 rfl ?_
    refine zi_if_lt O 58 d_Mov_push_33 (by decide) (fun c33 => ?_) (fun c33 => ?_)
    · refine zi_iconstN O 0 d_Mov_push_58 (by decide) ?_
      refine zi_widen (Nat.zero_le 2) (Nat.zero_le 6) ?_
      refine zi_zret O d_Mov_push_59 rfl (Nat.le_of_ble_eq_true rfl) (Nat.le_of_ble_eq_true rfl) (Nat.le_of_ble_eq_true rfl) ?_
      refine Or.inl ⟨rfl, rfl, fun e f q => ?_⟩
      rcases k7 with ⟨e', he, -, rfl⟩ | ⟨k7, -⟩
      · exact nI_pos (by omega) c33
      · exact k7 f q.2.1 q.2.2.2.1
    · rcases k7 with ⟨f, hf, rfl, rfl⟩ | ⟨-, rfl⟩
      rotate_left
      · exact absurd (by decide) c33
      refine zi_iload O d_Mov_push_36 rfl ?_
      refine zi_iload O d_Mov_push_38 rfl ?_
      refine zi_icmp_eqN O 58 d_Mov_push_40 (by decide) (by omega) (by omega) (fun c40 => ?_) (fun c40 => ?_)
      · refine zi_iconstN O 0 d_Mov_push_58 (by decide) ?_
        refine zi_widen (Nat.zero_le 2) (Nat.zero_le 6) ?_
        refine zi_zret O d_Mov_push_59 rfl (Nat.le_of_ble_eq_true rfl) (Nat.le_of_ble_eq_true rfl) (Nat.le_of_ble_eq_true rfl) ?_
        refine Or.inl ⟨rfl, rfl, fun e' f' q => ?_⟩
        obtain ⟨q1, q2, q3, q4, q5, -⟩ := q
        have a1 := el_uniq hR hE he q1 q3
        have a2 := el_uniq hR hE hf q2 q4
        omega
      · refine zi_aload_n O d_Mov_push_43 rfl ?_
        refine zi_get O f_Mov_12 d_Mov_push_44 rfl rfl ?_
        refine zi_get O f_Mov_26 d_Mov_push_47 rfl rfl ?_
        refine zi_get O f_Mov_40 d_Mov_push_50 rfl rfl ?_
        refine zi_bipushN O 18 d_Mov_push_53 (by decide) ?_
        refine zi_icmp_leN O 60 d_Mov_push_55 (by decide) (by omega) (by omega) (fun c55 => ?_) (fun c55 => ?_)
        rotate_left
        · refine zi_iconstN O 0 d_Mov_push_58 (by decide) ?_
          refine zi_widen (Nat.zero_le 2) (Nat.zero_le 6) ?_
          refine zi_zret O d_Mov_push_59 rfl (Nat.le_of_ble_eq_true rfl) (Nat.le_of_ble_eq_true rfl) (Nat.le_of_ble_eq_true rfl) ?_
          exact Or.inl ⟨rfl, rfl, fun e' f' q => by have := q.2.2.2.2.2.1; omega⟩
        refine zi_aload_n O d_Mov_push_60 rfl ?_
        refine zi_get O f_Mov_12 d_Mov_push_61 rfl rfl ?_
        refine zi_iconstN O 2 d_Mov_push_64 (by decide) ?_
        refine zi_iload O d_Mov_push_65 rfl ?_
        first | refine zi_imulN O d_Mov_push_67 ?_ | refine zi_imul O d_Mov_push_67 ?_
        refine zi_iload_n O d_Mov_push_68 rfl ?_
        refine zi_if_eq O 76 d_Mov_push_69 (by decide) (fun c69 => ?_) (fun c69 => ?_)
        rotate_left
        · exact absurd rfl c69
        refine zi_iconstN O 0 d_Mov_push_76 (by decide) ?_
        first | refine zi_iaddN O d_Mov_push_77 ?_ | refine zi_iadd O d_Mov_push_77 ?_
        refine zi_iconstN O 2 d_Mov_push_78 (by decide) ?_
        refine zi_iload O d_Mov_push_79 rfl ?_
        first | refine zi_imulN O d_Mov_push_81 ?_ | refine zi_imul O d_Mov_push_81 ?_
        refine zi_iload O d_Mov_push_82 rfl ?_
        refine zi_if_eq O 91 d_Mov_push_84 (by decide) (fun c84 => ?_) (fun c84 => ?_)
        · exact absurd c84 (by decide)
        refine zi_iconstN O 1 d_Mov_push_87 (by decide) ?_
        refine zi_goto O 92 d_Mov_push_88 (by decide) ?_
        first | refine zi_iaddN O d_Mov_push_92 ?_ | refine zi_iadd O d_Mov_push_92 ?_
        refine zi_iload O d_Mov_push_93 rfl ?_
        by_cases hm : meet n fr to_ at_ oc (2 * e + dI false) (2 * f + dI true)
        · refine zi_blkV O 1 ([zo 0 [.ref 1, .ref 19]]) (diaH ci n L S (2 * n) PL LB FR TO AT (FF (nxD fr to_ at_) (4 * n) (4 * n)).2 OF RD ST (rc oc n) (FF (nxE to_ at_) (2 * n) (2 * n)).2 OC CE SL) ((diaH cj k L' T m' PL' LB' FR' TO' AT' F' OF' RD' ST' pc' co' OC' CE' SL').map (zc (fun q => q + 19))) rfl rfl c_Mov_121 k_Dia_pushDart (m_Dia_pushDart hPk ov (2 * e + dI false) (2 * f + dI true) (by have h1 := dI_le true; have h2 := dI_le false; omega) (by have h1 := dI_le true; have h2 := dI_le false; omega) c55 hm u v w z hu hv hw hzz) d_Mov_push_95 ⟨(Nat.le_of_ble_eq_true rfl), (Nat.le_of_ble_eq_true rfl)⟩ ⟨(Nat.le_of_ble_eq_true rfl), (Nat.le_of_ble_eq_true rfl)⟩ rfl rfl (Nat.le_of_ble_eq_true rfl) rfl rfl rfl (Nat.le_of_ble_eq_true rfl) rfl rfl (fun r h' hq => ?_) rfl (fun r h' hq => ?_)
          · exact chq_blk hq.2 rfl
          · obtain ⟨rfl, hC⟩ := hq
            have hC1 := hC
            obtain ⟨X1, x2, X3, X4, X5, X6, X7, x8, X9, X10, X11, x12, x13, X14, X15, X16, rfl⟩ := dr_form (chq_dr hC1)
            refine zi_st (st' := [.int (nI 1)]) rfl (zi_h (h' := movH 1 19 (diaH ci (n + 1 + 1) X1 (upd (upd S n (phS ov (decide ((2 * e + dI false) % 2 = 0)) (decide ((2 * f + dI true) % 2 = 0)))) (n + 1) (-phS ov (decide ((2 * e + dI false) % 2 = 0)) (decide ((2 * f + dI true) % 2 = 0)))) x2 X3 X4 X5 X6 X7 x8 X9 X10 X11 x12 x13 X14 X15 X16) (diaH cj k L' T m' PL' LB' FR' TO' AT' F' OF' RD' ST' pc' co' OC' CE' SL')) rfl ?_)
            refine zi_zret O d_Mov_push_98 rfl (Nat.le_of_ble_eq_true rfl) (Nat.le_of_ble_eq_true rfl) (Nat.le_of_ble_eq_true rfl) ?_
            exact Or.inr ⟨e, f, ⟨he, hf, rfl, rfl, c40, c55, hm⟩, rfl, Or.inl ⟨_, _, hC, hRk, rfl⟩⟩
        · refine zi_blkP O 1 ([zo 0 [.ref 1, .ref 19]]) (diaH ci n L S (2 * n) PL LB FR TO AT (FF (nxD fr to_ at_) (4 * n) (4 * n)).2 OF RD ST (rc oc n) (FF (nxE to_ at_) (2 * n) (2 * n)).2 OC CE SL) ((diaH cj k L' T m' PL' LB' FR' TO' AT' F' OF' RD' ST' pc' co' OC' CE' SL').map (zc (fun q => q + 19))) rfl rfl c_Mov_121 k_Dia_pushDart (m_Dia_pushDart_no hPk (2 * e + dI false) (2 * f + dI true) (bI ov) (by have h1 := dI_le true; have h2 := dI_le false; omega) (by have h1 := dI_le true; have h2 := dI_le false; omega) hm) d_Mov_push_95 ⟨(Nat.le_of_ble_eq_true rfl), (Nat.le_of_ble_eq_true rfl)⟩ ⟨(Nat.le_of_ble_eq_true rfl), (Nat.le_of_ble_eq_true rfl)⟩ rfl rfl (Nat.le_of_ble_eq_true rfl) rfl rfl rfl (Nat.le_of_ble_eq_true rfl) rfl rfl rfl ?_
          refine zi_widen (Nat.zero_le 2) (Nat.zero_le 6) ?_
          refine zi_zret O d_Mov_push_98 rfl (Nat.le_of_ble_eq_true rfl) (Nat.le_of_ble_eq_true rfl) (Nat.le_of_ble_eq_true rfl) ?_
          refine Or.inl ⟨rfl, rfl, fun e' f' q => ?_⟩
          obtain ⟨q1, q2, q3, q4, q5, q6, q7⟩ := q
          have a1 := el_uniq hR hE he q1 q3
          have a2 := el_uniq hR hE hf q2 q4
          subst a1
          subst a2
          exact hm q7
set_option maxHeartbeats 2000000 in
theorem m_Mov_push_10_1 {hA hB : List zE} (hP0 : Dia n lab S ci el fr to_ at_ oc hA) (hR0 : Dr k plab T cj hB) (x y : Int32) (ov : Bool) (u v w z : Nat) (hu : u = fN el 0 (2 * n)) (hv : v = fN el u (2 * n)) (hw : w = fN el v (2 * n)) (hzz : z = fN el w (2 * n)) : zMet y_Mov_push b_Mov_push 8 (some .boolean) ⟨7, 2, 6, 200⟩ [.ref 0, .int x, .int (bI true), .int y, .int (bI false), .int (bI ov)] (movH 1 19 hA hB)
    (fun r h' => (r = some (.int (nI 0)) ∧ h' = movH 1 19 hA hB ∧ ∀ e f, ¬ PushOK n el fr to_ at_ oc x y true false e f) ∨ (∃ e f, PushOK n el fr to_ at_ oc x y true false e f ∧ r = some (.int (nI 1)) ∧ Mv (ChQ (n + 1 + 1) (phL ov (decide ((2 * e + dI true) % 2 = 0)) (decide ((2 * f + dI false) % 2 = 0)) (va_up (va_up lab (to_ ((2 * e + dI true) / 2)) v) (to_ ((2 * f + dI false) / 2)) z) n (el ((2 * e + dI true) / 2)) u v (el ((2 * f + dI false) / 2)) w z) (upd (upd S n (phS ov (decide ((2 * e + dI true) % 2 = 0)) (decide ((2 * f + dI false) % 2 = 0)))) (n + 1) (-phS ov (decide ((2 * e + dI true) % 2 = 0)) (decide ((2 * f + dI false) % 2 = 0)))) ci) (Dr k plab T cj) h')) := by
  have hPk := hP0
  have hRk := hR0
  obtain ⟨L, PL, LB, FR, TO, AT, OF, RD, ST, OC, CE, SL, rfl, hR, hG, hz, hE, hA, hRd, hO, hP, hOF⟩ := hP0
  have hn := hR.1
  have hFF := ff_le (by omega) (perm_D hE) (Nat.le_refl (4 * n))
  obtain ⟨L', m', PL', LB', FR', TO', AT', F', OF', RD', ST', pc', co', OC', CE', SL', rfl, hR', hG', hz'⟩ := hR0
  obtain ⟨r6, m6, k6⟩ := wl_tot (PL := PL) hR hE hA x
  obtain ⟨r7, m7, k7⟩ := wl_tot (PL := PL) hR hE hA y
  refine zMet_of (plainFor_of_name (by decide +kernel)) rfl (Nat.le_of_ble_eq_true rfl) (fun z1 z2 z3 z4 z5 z6 z7 z8 z9 z10 z11 z12 z13 z14 O hin => ?_)
  refine zi_ls (ls' := [some (.ref 0), some (.int x), some (.int (bI true)), some (.int y), some (.int (bI false)), some (.int (bI ov)), none, none]) rfl ?_
  refine zi_aload_n O d_Mov_push_0 rfl ?_
  refine zi_get O f_Mov_12 d_Mov_push_1 rfl rfl ?_
  refine zi_get O f_Mov_71 d_Mov_push_4 rfl rfl ?_
  refine zi_iload_n O d_Mov_push_7 rfl ?_
  refine zi_pureV O [5, 6, 7, 8, 9, 10] c_Mov_118 k_Edg_withLabel m6 d_Mov_push_8 ⟨(Nat.le_of_ble_eq_true rfl), (Nat.le_of_ble_eq_true rfl)⟩ ⟨(Nat.le_of_ble_eq_true rfl), (Nat.le_of_ble_eq_true rfl)⟩ rfl rfl (Nat.le_of_ble_eq_true rfl) rfl rfl rfl rfl rfl (Nat.le_of_ble_eq_true rfl) rfl ?_
  refine zi_istore (ls' := _ :: _ :: _ :: _ :: _ :: _ :: some _ :: _) O d_Mov_push_11 rfl (by decide) rfl ?_
  refine zi_aload_n O d_Mov_push_13 rfl ?_
  refine zi_get O f_Mov_12 d_Mov_push_14 rfl rfl ?_
  refine zi_get O f_Mov_71 d_Mov_push_17 rfl rfl ?_
  refine zi_iload_n O d_Mov_push_20 rfl ?_
  refine zi_pureV O [5, 6, 7, 8, 9, 10] c_Mov_118 k_Edg_withLabel m7 d_Mov_push_21 ⟨(Nat.le_of_ble_eq_true rfl), (Nat.le_of_ble_eq_true rfl)⟩ ⟨(Nat.le_of_ble_eq_true rfl), (Nat.le_of_ble_eq_true rfl)⟩ rfl rfl (Nat.le_of_ble_eq_true rfl) rfl rfl rfl rfl rfl (Nat.le_of_ble_eq_true rfl) rfl ?_
  refine zi_istore (ls' := _ :: _ :: _ :: _ :: _ :: _ :: _ :: some _ :: _) O d_Mov_push_24 rfl (by decide) rfl ?_
  refine zi_iload O d_Mov_push_26 rfl ?_
  refine zi_if_lt O 58 d_Mov_push_28 (by decide) (fun c28 => ?_) (fun c28 => ?_)
  · refine zi_iconstN O 0 d_Mov_push_58 (by decide) ?_
    refine zi_widen (Nat.zero_le 2) (Nat.zero_le 6) ?_
    refine zi_zret O d_Mov_push_59 rfl (Nat.le_of_ble_eq_true rfl) (Nat.le_of_ble_eq_true rfl) (Nat.le_of_ble_eq_true rfl) ?_
    refine Or.inl ⟨rfl, rfl, fun e f q => ?_⟩
    rcases k6 with ⟨e', he, -, rfl⟩ | ⟨k6, -⟩
    · exact nI_pos (by omega) c28
    · exact k6 e q.1 q.2.2.1
  · rcases k6 with ⟨e, he, rfl, rfl⟩ | ⟨-, rfl⟩
    rotate_left
    · exact absurd (by decide) c28
    refine zi_iload O d_Mov_push_31 rfl ?_
    refine zi_if_lt O 58 d_Mov_push_33 (by decide) (fun c33 => ?_) (fun c33 => ?_)
    · refine zi_iconstN O 0 d_Mov_push_58 (by decide) ?_
      refine zi_widen (Nat.zero_le 2) (Nat.zero_le 6) ?_
      refine zi_zret O d_Mov_push_59 rfl (Nat.le_of_ble_eq_true rfl) (Nat.le_of_ble_eq_true rfl) (Nat.le_of_ble_eq_true rfl) ?_
      refine Or.inl ⟨rfl, rfl, fun e f q => ?_⟩
      rcases k7 with ⟨e', he, -, rfl⟩ | ⟨k7, -⟩
      · exact nI_pos (by omega) c33
      · exact k7 f q.2.1 q.2.2.2.1
    · rcases k7 with ⟨f, hf, rfl, rfl⟩ | ⟨-, rfl⟩
      rotate_left
      · exact absurd (by decide) c33
      refine zi_iload O d_Mov_push_36 rfl ?_
      refine zi_iload O d_Mov_push_38 rfl ?_
      refine zi_icmp_eqN O 58 d_Mov_push_40 (by decide) (by omega) (by omega) (fun c40 => ?_) (fun c40 => ?_)
      · refine zi_iconstN O 0 d_Mov_push_58 (by decide) ?_
        refine zi_widen (Nat.zero_le 2) (Nat.zero_le 6) ?_
        refine zi_zret O d_Mov_push_59 rfl (Nat.le_of_ble_eq_true rfl) (Nat.le_of_ble_eq_true rfl) (Nat.le_of_ble_eq_true rfl) ?_
        refine Or.inl ⟨rfl, rfl, fun e' f' q => ?_⟩
        obtain ⟨q1, q2, q3, q4, q5, -⟩ := q
        have a1 := el_uniq hR hE he q1 q3
        have a2 := el_uniq hR hE hf q2 q4
        omega
      · refine zi_aload_n O d_Mov_push_43 rfl ?_
        refine zi_get O f_Mov_12 d_Mov_push_44 rfl rfl ?_
        refine zi_get O f_Mov_26 d_Mov_push_47 rfl rfl ?_
        refine zi_get O f_Mov_40 d_Mov_push_50 rfl rfl ?_
        refine zi_bipushN O 18 d_Mov_push_53 (by decide) ?_
        refine zi_icmp_leN O 60 d_Mov_push_55 (by decide) (by omega) (by omega) (fun c55 => ?_) (fun c55 => ?_)
        rotate_left
        · refine zi_iconstN O 0 d_Mov_push_58 (by decide) ?_
          refine zi_widen (Nat.zero_le 2) (Nat.zero_le 6) ?_
          refine zi_zret O d_Mov_push_59 rfl (Nat.le_of_ble_eq_true rfl) (Nat.le_of_ble_eq_true rfl) (Nat.le_of_ble_eq_true rfl) ?_
          exact Or.inl ⟨rfl, rfl, fun e' f' q => by have := q.2.2.2.2.2.1; omega⟩
        refine zi_aload_n O d_Mov_push_60 rfl ?_
        refine zi_get O f_Mov_12 d_Mov_push_61 rfl rfl ?_
        refine zi_iconstN O 2 d_Mov_push_64 (by decide) ?_
        refine zi_iload O d_Mov_push_65 rfl ?_
        first | refine zi_imulN O d_Mov_push_67 ?_ | refine zi_imul O d_Mov_push_67 ?_
        refine zi_iload_n O d_Mov_push_68 rfl ?_
        refine zi_if_eq O 76 d_Mov_push_69 (by decide) (fun c69 => ?_) (fun c69 => ?_)
        · exact absurd c69 (by decide)
        refine zi_iconstN O 1 d_Mov_push_72 (by decide) ?_
        refine zi_goto O 77 d_Mov_push_73 (by decide) ?_
        first | refine zi_iaddN O d_Mov_push_77 ?_ | refine zi_iadd O d_Mov_push_77 ?_
        refine zi_iconstN O 2 d_Mov_push_78 (by decide) ?_
        refine zi_iload O d_Mov_push_79 rfl ?_
        first | refine zi_imulN O d_Mov_push_81 ?_ | refine zi_imul O d_Mov_push_81 ?_
        refine zi_iload O d_Mov_push_82 rfl ?_
        refine zi_if_eq O 91 d_Mov_push_84 (by decide) (fun c84 => ?_) (fun c84 => ?_)
        rotate_left
        · exact absurd rfl c84
        refine zi_iconstN O 0 d_Mov_push_91 (by decide) ?_
        first | refine zi_iaddN O d_Mov_push_92 ?_ | refine zi_iadd O d_Mov_push_92 ?_
        refine zi_iload O d_Mov_push_93 rfl ?_
        by_cases hm : meet n fr to_ at_ oc (2 * e + dI true) (2 * f + dI false)
        · refine zi_blkV O 1 ([zo 0 [.ref 1, .ref 19]]) (diaH ci n L S (2 * n) PL LB FR TO AT (FF (nxD fr to_ at_) (4 * n) (4 * n)).2 OF RD ST (rc oc n) (FF (nxE to_ at_) (2 * n) (2 * n)).2 OC CE SL) ((diaH cj k L' T m' PL' LB' FR' TO' AT' F' OF' RD' ST' pc' co' OC' CE' SL').map (zc (fun q => q + 19))) rfl rfl c_Mov_121 k_Dia_pushDart (m_Dia_pushDart hPk ov (2 * e + dI true) (2 * f + dI false) (by have h1 := dI_le true; have h2 := dI_le false; omega) (by have h1 := dI_le true; have h2 := dI_le false; omega) c55 hm u v w z hu hv hw hzz) d_Mov_push_95 ⟨(Nat.le_of_ble_eq_true rfl), (Nat.le_of_ble_eq_true rfl)⟩ ⟨(Nat.le_of_ble_eq_true rfl), (Nat.le_of_ble_eq_true rfl)⟩ rfl rfl (Nat.le_of_ble_eq_true rfl) rfl rfl rfl (Nat.le_of_ble_eq_true rfl) rfl rfl (fun r h' hq => ?_) rfl (fun r h' hq => ?_)
          · exact chq_blk hq.2 rfl
          · obtain ⟨rfl, hC⟩ := hq
            have hC1 := hC
            obtain ⟨X1, x2, X3, X4, X5, X6, X7, x8, X9, X10, X11, x12, x13, X14, X15, X16, rfl⟩ := dr_form (chq_dr hC1)
            refine zi_st (st' := [.int (nI 1)]) rfl (zi_h (h' := movH 1 19 (diaH ci (n + 1 + 1) X1 (upd (upd S n (phS ov (decide ((2 * e + dI true) % 2 = 0)) (decide ((2 * f + dI false) % 2 = 0)))) (n + 1) (-phS ov (decide ((2 * e + dI true) % 2 = 0)) (decide ((2 * f + dI false) % 2 = 0)))) x2 X3 X4 X5 X6 X7 x8 X9 X10 X11 x12 x13 X14 X15 X16) (diaH cj k L' T m' PL' LB' FR' TO' AT' F' OF' RD' ST' pc' co' OC' CE' SL')) rfl ?_)
            refine zi_zret O d_Mov_push_98 rfl (Nat.le_of_ble_eq_true rfl) (Nat.le_of_ble_eq_true rfl) (Nat.le_of_ble_eq_true rfl) ?_
            exact Or.inr ⟨e, f, ⟨he, hf, rfl, rfl, c40, c55, hm⟩, rfl, Or.inl ⟨_, _, hC, hRk, rfl⟩⟩
        · refine zi_blkP O 1 ([zo 0 [.ref 1, .ref 19]]) (diaH ci n L S (2 * n) PL LB FR TO AT (FF (nxD fr to_ at_) (4 * n) (4 * n)).2 OF RD ST (rc oc n) (FF (nxE to_ at_) (2 * n) (2 * n)).2 OC CE SL) ((diaH cj k L' T m' PL' LB' FR' TO' AT' F' OF' RD' ST' pc' co' OC' CE' SL').map (zc (fun q => q + 19))) rfl rfl c_Mov_121 k_Dia_pushDart (m_Dia_pushDart_no hPk (2 * e + dI true) (2 * f + dI false) (bI ov) (by have h1 := dI_le true; have h2 := dI_le false; omega) (by have h1 := dI_le true; have h2 := dI_le false; omega) hm) d_Mov_push_95 ⟨(Nat.le_of_ble_eq_true rfl), (Nat.le_of_ble_eq_true rfl)⟩ ⟨(Nat.le_of_ble_eq_true rfl), (Nat.le_of_ble_eq_true rfl)⟩ rfl rfl (Nat.le_of_ble_eq_true rfl) rfl rfl rfl (Nat.le_of_ble_eq_true rfl) rfl rfl rfl ?_
          refine zi_widen (Nat.zero_le 2) (Nat.zero_le 6) ?_
          refine zi_zret O d_Mov_push_98 rfl (Nat.le_of_ble_eq_true rfl) (Nat.le_of_ble_eq_true rfl) (Nat.le_of_ble_eq_true rfl) ?_
          refine Or.inl ⟨rfl, rfl, fun e' f' q => ?_⟩
          obtain ⟨q1, q2, q3, q4, q5, q6, q7⟩ := q
          have a1 := el_uniq hR hE he q1 q3
          have a2 := el_uniq hR hE hf q2 q4
          subst a1
          subst a2
          exact hm q7
set_option maxHeartbeats 2000000 in
theorem m_Mov_push_11_1 {hA hB : List zE} (hP0 : Dia n lab S ci el fr to_ at_ oc hA) (hR0 : Dr k plab T cj hB) (x y : Int32) (ov : Bool) (u v w z : Nat) (hu : u = fN el 0 (2 * n)) (hv : v = fN el u (2 * n)) (hw : w = fN el v (2 * n)) (hzz : z = fN el w (2 * n)) : zMet y_Mov_push b_Mov_push 8 (some .boolean) ⟨7, 2, 6, 200⟩ [.ref 0, .int x, .int (bI true), .int y, .int (bI true), .int (bI ov)] (movH 1 19 hA hB)
    (fun r h' => (r = some (.int (nI 0)) ∧ h' = movH 1 19 hA hB ∧ ∀ e f, ¬ PushOK n el fr to_ at_ oc x y true true e f) ∨ (∃ e f, PushOK n el fr to_ at_ oc x y true true e f ∧ r = some (.int (nI 1)) ∧ Mv (ChQ (n + 1 + 1) (phL ov (decide ((2 * e + dI true) % 2 = 0)) (decide ((2 * f + dI true) % 2 = 0)) (va_up (va_up lab (to_ ((2 * e + dI true) / 2)) v) (to_ ((2 * f + dI true) / 2)) z) n (el ((2 * e + dI true) / 2)) u v (el ((2 * f + dI true) / 2)) w z) (upd (upd S n (phS ov (decide ((2 * e + dI true) % 2 = 0)) (decide ((2 * f + dI true) % 2 = 0)))) (n + 1) (-phS ov (decide ((2 * e + dI true) % 2 = 0)) (decide ((2 * f + dI true) % 2 = 0)))) ci) (Dr k plab T cj) h')) := by
  have hPk := hP0
  have hRk := hR0
  obtain ⟨L, PL, LB, FR, TO, AT, OF, RD, ST, OC, CE, SL, rfl, hR, hG, hz, hE, hA, hRd, hO, hP, hOF⟩ := hP0
  have hn := hR.1
  have hFF := ff_le (by omega) (perm_D hE) (Nat.le_refl (4 * n))
  obtain ⟨L', m', PL', LB', FR', TO', AT', F', OF', RD', ST', pc', co', OC', CE', SL', rfl, hR', hG', hz'⟩ := hR0
  obtain ⟨r6, m6, k6⟩ := wl_tot (PL := PL) hR hE hA x
  obtain ⟨r7, m7, k7⟩ := wl_tot (PL := PL) hR hE hA y
  refine zMet_of (plainFor_of_name (by decide +kernel)) rfl (Nat.le_of_ble_eq_true rfl) (fun z1 z2 z3 z4 z5 z6 z7 z8 z9 z10 z11 z12 z13 z14 O hin => ?_)
  refine zi_ls (ls' := [some (.ref 0), some (.int x), some (.int (bI true)), some (.int y), some (.int (bI true)), some (.int (bI ov)), none, none]) rfl ?_
  refine zi_aload_n O d_Mov_push_0 rfl ?_
  refine zi_get O f_Mov_12 d_Mov_push_1 rfl rfl ?_
  refine zi_get O f_Mov_71 d_Mov_push_4 rfl rfl ?_
  refine zi_iload_n O d_Mov_push_7 rfl ?_
  refine zi_pureV O [5, 6, 7, 8, 9, 10] c_Mov_118 k_Edg_withLabel m6 d_Mov_push_8 ⟨(Nat.le_of_ble_eq_true rfl), (Nat.le_of_ble_eq_true rfl)⟩ ⟨(Nat.le_of_ble_eq_true rfl), (Nat.le_of_ble_eq_true rfl)⟩ rfl rfl (Nat.le_of_ble_eq_true rfl) rfl rfl rfl rfl rfl (Nat.le_of_ble_eq_true rfl) rfl ?_
  refine zi_istore (ls' := _ :: _ :: _ :: _ :: _ :: _ :: some _ :: _) O d_Mov_push_11 rfl (by decide) rfl ?_
  refine zi_aload_n O d_Mov_push_13 rfl ?_
  refine zi_get O f_Mov_12 d_Mov_push_14 rfl rfl ?_
  refine zi_get O f_Mov_71 d_Mov_push_17 rfl rfl ?_
  refine zi_iload_n O d_Mov_push_20 rfl ?_
  refine zi_pureV O [5, 6, 7, 8, 9, 10] c_Mov_118 k_Edg_withLabel m7 d_Mov_push_21 ⟨(Nat.le_of_ble_eq_true rfl), (Nat.le_of_ble_eq_true rfl)⟩ ⟨(Nat.le_of_ble_eq_true rfl), (Nat.le_of_ble_eq_true rfl)⟩ rfl rfl (Nat.le_of_ble_eq_true rfl) rfl rfl rfl rfl rfl (Nat.le_of_ble_eq_true rfl) rfl ?_
  refine zi_istore (ls' := _ :: _ :: _ :: _ :: _ :: _ :: _ :: some _ :: _) O d_Mov_push_24 rfl (by decide) rfl ?_
  refine zi_iload O d_Mov_push_26 rfl ?_
  refine zi_if_lt O 58 d_Mov_push_28 (by decide) (fun c28 => ?_) (fun c28 => ?_)
  · refine zi_iconstN O 0 d_Mov_push_58 (by decide) ?_
    refine zi_widen (Nat.zero_le 2) (Nat.zero_le 6) ?_
    refine zi_zret O d_Mov_push_59 rfl (Nat.le_of_ble_eq_true rfl) (Nat.le_of_ble_eq_true rfl) (Nat.le_of_ble_eq_true rfl) ?_
    refine Or.inl ⟨rfl, rfl, fun e f q => ?_⟩
    rcases k6 with ⟨e', he, -, rfl⟩ | ⟨k6, -⟩
    · exact nI_pos (by omega) c28
    · exact k6 e q.1 q.2.2.1
  · rcases k6 with ⟨e, he, rfl, rfl⟩ | ⟨-, rfl⟩
    rotate_left
    · exact absurd (by decide) c28
    refine zi_iload O d_Mov_push_31 rfl ?_
    refine zi_if_lt O 58 d_Mov_push_33 (by decide) (fun c33 => ?_) (fun c33 => ?_)
    · refine zi_iconstN O 0 d_Mov_push_58 (by decide) ?_
      refine zi_widen (Nat.zero_le 2) (Nat.zero_le 6) ?_
      refine zi_zret O d_Mov_push_59 rfl (Nat.le_of_ble_eq_true rfl) (Nat.le_of_ble_eq_true rfl) (Nat.le_of_ble_eq_true rfl) ?_
      refine Or.inl ⟨rfl, rfl, fun e f q => ?_⟩
      rcases k7 with ⟨e', he, -, rfl⟩ | ⟨k7, -⟩
      · exact nI_pos (by omega) c33
      · exact k7 f q.2.1 q.2.2.2.1
    · rcases k7 with ⟨f, hf, rfl, rfl⟩ | ⟨-, rfl⟩
      rotate_left
      · exact absurd (by decide) c33
      refine zi_iload O d_Mov_push_36 rfl ?_
      refine zi_iload O d_Mov_push_38 rfl ?_
      refine zi_icmp_eqN O 58 d_Mov_push_40 (by decide) (by omega) (by omega) (fun c40 => ?_) (fun c40 => ?_)
      · refine zi_iconstN O 0 d_Mov_push_58 (by decide) ?_
        refine zi_widen (Nat.zero_le 2) (Nat.zero_le 6) ?_
        refine zi_zret O d_Mov_push_59 rfl (Nat.le_of_ble_eq_true rfl) (Nat.le_of_ble_eq_true rfl) (Nat.le_of_ble_eq_true rfl) ?_
        refine Or.inl ⟨rfl, rfl, fun e' f' q => ?_⟩
        obtain ⟨q1, q2, q3, q4, q5, -⟩ := q
        have a1 := el_uniq hR hE he q1 q3
        have a2 := el_uniq hR hE hf q2 q4
        omega
      · refine zi_aload_n O d_Mov_push_43 rfl ?_
        refine zi_get O f_Mov_12 d_Mov_push_44 rfl rfl ?_
        refine zi_get O f_Mov_26 d_Mov_push_47 rfl rfl ?_
        refine zi_get O f_Mov_40 d_Mov_push_50 rfl rfl ?_
        refine zi_bipushN O 18 d_Mov_push_53 (by decide) ?_
        refine zi_icmp_leN O 60 d_Mov_push_55 (by decide) (by omega) (by omega) (fun c55 => ?_) (fun c55 => ?_)
        rotate_left
        · refine zi_iconstN O 0 d_Mov_push_58 (by decide) ?_
          refine zi_widen (Nat.zero_le 2) (Nat.zero_le 6) ?_
          refine zi_zret O d_Mov_push_59 rfl (Nat.le_of_ble_eq_true rfl) (Nat.le_of_ble_eq_true rfl) (Nat.le_of_ble_eq_true rfl) ?_
          exact Or.inl ⟨rfl, rfl, fun e' f' q => by have := q.2.2.2.2.2.1; omega⟩
        refine zi_aload_n O d_Mov_push_60 rfl ?_
        refine zi_get O f_Mov_12 d_Mov_push_61 rfl rfl ?_
        refine zi_iconstN O 2 d_Mov_push_64 (by decide) ?_
        refine zi_iload O d_Mov_push_65 rfl ?_
        first | refine zi_imulN O d_Mov_push_67 ?_ | refine zi_imul O d_Mov_push_67 ?_
        refine zi_iload_n O d_Mov_push_68 rfl ?_
        refine zi_if_eq O 76 d_Mov_push_69 (by decide) (fun c69 => ?_) (fun c69 => ?_)
        · exact absurd c69 (by decide)
        refine zi_iconstN O 1 d_Mov_push_72 (by decide) ?_
        refine zi_goto O 77 d_Mov_push_73 (by decide) ?_
        first | refine zi_iaddN O d_Mov_push_77 ?_ | refine zi_iadd O d_Mov_push_77 ?_
        refine zi_iconstN O 2 d_Mov_push_78 (by decide) ?_
        refine zi_iload O d_Mov_push_79 rfl ?_
        first | refine zi_imulN O d_Mov_push_81 ?_ | refine zi_imul O d_Mov_push_81 ?_
        refine zi_iload O d_Mov_push_82 rfl ?_
        refine zi_if_eq O 91 d_Mov_push_84 (by decide) (fun c84 => ?_) (fun c84 => ?_)
        · exact absurd c84 (by decide)
        refine zi_iconstN O 1 d_Mov_push_87 (by decide) ?_
        refine zi_goto O 92 d_Mov_push_88 (by decide) ?_
        first | refine zi_iaddN O d_Mov_push_92 ?_ | refine zi_iadd O d_Mov_push_92 ?_
        refine zi_iload O d_Mov_push_93 rfl ?_
        by_cases hm : meet n fr to_ at_ oc (2 * e + dI true) (2 * f + dI true)
        · refine zi_blkV O 1 ([zo 0 [.ref 1, .ref 19]]) (diaH ci n L S (2 * n) PL LB FR TO AT (FF (nxD fr to_ at_) (4 * n) (4 * n)).2 OF RD ST (rc oc n) (FF (nxE to_ at_) (2 * n) (2 * n)).2 OC CE SL) ((diaH cj k L' T m' PL' LB' FR' TO' AT' F' OF' RD' ST' pc' co' OC' CE' SL').map (zc (fun q => q + 19))) rfl rfl c_Mov_121 k_Dia_pushDart (m_Dia_pushDart hPk ov (2 * e + dI true) (2 * f + dI true) (by have h1 := dI_le true; have h2 := dI_le false; omega) (by have h1 := dI_le true; have h2 := dI_le false; omega) c55 hm u v w z hu hv hw hzz) d_Mov_push_95 ⟨(Nat.le_of_ble_eq_true rfl), (Nat.le_of_ble_eq_true rfl)⟩ ⟨(Nat.le_of_ble_eq_true rfl), (Nat.le_of_ble_eq_true rfl)⟩ rfl rfl (Nat.le_of_ble_eq_true rfl) rfl rfl rfl (Nat.le_of_ble_eq_true rfl) rfl rfl (fun r h' hq => ?_) rfl (fun r h' hq => ?_)
          · exact chq_blk hq.2 rfl
          · obtain ⟨rfl, hC⟩ := hq
            have hC1 := hC
            obtain ⟨X1, x2, X3, X4, X5, X6, X7, x8, X9, X10, X11, x12, x13, X14, X15, X16, rfl⟩ := dr_form (chq_dr hC1)
            refine zi_st (st' := [.int (nI 1)]) rfl (zi_h (h' := movH 1 19 (diaH ci (n + 1 + 1) X1 (upd (upd S n (phS ov (decide ((2 * e + dI true) % 2 = 0)) (decide ((2 * f + dI true) % 2 = 0)))) (n + 1) (-phS ov (decide ((2 * e + dI true) % 2 = 0)) (decide ((2 * f + dI true) % 2 = 0)))) x2 X3 X4 X5 X6 X7 x8 X9 X10 X11 x12 x13 X14 X15 X16) (diaH cj k L' T m' PL' LB' FR' TO' AT' F' OF' RD' ST' pc' co' OC' CE' SL')) rfl ?_)
            refine zi_zret O d_Mov_push_98 rfl (Nat.le_of_ble_eq_true rfl) (Nat.le_of_ble_eq_true rfl) (Nat.le_of_ble_eq_true rfl) ?_
            exact Or.inr ⟨e, f, ⟨he, hf, rfl, rfl, c40, c55, hm⟩, rfl, Or.inl ⟨_, _, hC, hRk, rfl⟩⟩
        · refine zi_blkP O 1 ([zo 0 [.ref 1, .ref 19]]) (diaH ci n L S (2 * n) PL LB FR TO AT (FF (nxD fr to_ at_) (4 * n) (4 * n)).2 OF RD ST (rc oc n) (FF (nxE to_ at_) (2 * n) (2 * n)).2 OC CE SL) ((diaH cj k L' T m' PL' LB' FR' TO' AT' F' OF' RD' ST' pc' co' OC' CE' SL').map (zc (fun q => q + 19))) rfl rfl c_Mov_121 k_Dia_pushDart (m_Dia_pushDart_no hPk (2 * e + dI true) (2 * f + dI true) (bI ov) (by have h1 := dI_le true; have h2 := dI_le false; omega) (by have h1 := dI_le true; have h2 := dI_le false; omega) hm) d_Mov_push_95 ⟨(Nat.le_of_ble_eq_true rfl), (Nat.le_of_ble_eq_true rfl)⟩ ⟨(Nat.le_of_ble_eq_true rfl), (Nat.le_of_ble_eq_true rfl)⟩ rfl rfl (Nat.le_of_ble_eq_true rfl) rfl rfl rfl (Nat.le_of_ble_eq_true rfl) rfl rfl rfl ?_
          refine zi_widen (Nat.zero_le 2) (Nat.zero_le 6) ?_
          refine zi_zret O d_Mov_push_98 rfl (Nat.le_of_ble_eq_true rfl) (Nat.le_of_ble_eq_true rfl) (Nat.le_of_ble_eq_true rfl) ?_
          refine Or.inl ⟨rfl, rfl, fun e' f' q => ?_⟩
          obtain ⟨q1, q2, q3, q4, q5, q6, q7⟩ := q
          have a1 := el_uniq hR hE he q1 q3
          have a2 := el_uniq hR hE hf q2 q4
          subst a1
          subst a2
          exact hm q7
set_option maxHeartbeats 2000000 in
theorem m_Mov_push_00_2 {hA hB : List zE} (hP0 : Dia n lab S ci el fr to_ at_ oc hA) (hR0 : Dr k plab T cj hB) (x y : Int32) (ov : Bool) (u v w z : Nat) (hu : u = fN el 0 (2 * n)) (hv : v = fN el u (2 * n)) (hw : w = fN el v (2 * n)) (hzz : z = fN el w (2 * n)) : zMet y_Mov_push b_Mov_push 8 (some .boolean) ⟨7, 2, 6, 200⟩ [.ref 0, .int x, .int (bI false), .int y, .int (bI false), .int (bI ov)] (movH 19 1 hB hA)
    (fun r h' => (r = some (.int (nI 0)) ∧ h' = movH 19 1 hB hA ∧ ∀ e f, ¬ PushOK n el fr to_ at_ oc x y false false e f) ∨ (∃ e f, PushOK n el fr to_ at_ oc x y false false e f ∧ r = some (.int (nI 1)) ∧ Mv (ChQ (n + 1 + 1) (phL ov (decide ((2 * e + dI false) % 2 = 0)) (decide ((2 * f + dI false) % 2 = 0)) (va_up (va_up lab (to_ ((2 * e + dI false) / 2)) v) (to_ ((2 * f + dI false) / 2)) z) n (el ((2 * e + dI false) / 2)) u v (el ((2 * f + dI false) / 2)) w z) (upd (upd S n (phS ov (decide ((2 * e + dI false) % 2 = 0)) (decide ((2 * f + dI false) % 2 = 0)))) (n + 1) (-phS ov (decide ((2 * e + dI false) % 2 = 0)) (decide ((2 * f + dI false) % 2 = 0)))) ci) (Dr k plab T cj) h')) := by
  have hPk := hP0
  have hRk := hR0
  obtain ⟨L, PL, LB, FR, TO, AT, OF, RD, ST, OC, CE, SL, rfl, hR, hG, hz, hE, hA, hRd, hO, hP, hOF⟩ := hP0
  have hn := hR.1
  have hFF := ff_le (by omega) (perm_D hE) (Nat.le_refl (4 * n))
  obtain ⟨L', m', PL', LB', FR', TO', AT', F', OF', RD', ST', pc', co', OC', CE', SL', rfl, hR', hG', hz'⟩ := hR0
  obtain ⟨r6, m6, k6⟩ := wl_tot (PL := PL) hR hE hA x
  obtain ⟨r7, m7, k7⟩ := wl_tot (PL := PL) hR hE hA y
  refine zMet_of (plainFor_of_name (by decide +kernel)) rfl (Nat.le_of_ble_eq_true rfl) (fun z1 z2 z3 z4 z5 z6 z7 z8 z9 z10 z11 z12 z13 z14 O hin => ?_)
  refine zi_ls (ls' := [some (.ref 0), some (.int x), some (.int (bI false)), some (.int y), some (.int (bI false)), some (.int (bI ov)), none, none]) rfl ?_
  refine zi_aload_n O d_Mov_push_0 rfl ?_
  refine zi_get O f_Mov_12 d_Mov_push_1 rfl rfl ?_
  refine zi_get O f_Mov_71 d_Mov_push_4 rfl rfl ?_
  refine zi_iload_n O d_Mov_push_7 rfl ?_
  refine zi_pureV O [23, 24, 25, 26, 27, 28] c_Mov_118 k_Edg_withLabel m6 d_Mov_push_8 ⟨(Nat.le_of_ble_eq_true rfl), (Nat.le_of_ble_eq_true rfl)⟩ ⟨(Nat.le_of_ble_eq_true rfl), (Nat.le_of_ble_eq_true rfl)⟩ rfl rfl (Nat.le_of_ble_eq_true rfl) rfl rfl rfl rfl rfl (Nat.le_of_ble_eq_true rfl) rfl ?_
  refine zi_istore (ls' := _ :: _ :: _ :: _ :: _ :: _ :: some _ :: _) O d_Mov_push_11 rfl (by decide) rfl ?_
  refine zi_aload_n O d_Mov_push_13 rfl ?_
  refine zi_get O f_Mov_12 d_Mov_push_14 rfl rfl ?_
  refine zi_get O f_Mov_71 d_Mov_push_17 rfl rfl ?_
  refine zi_iload_n O d_Mov_push_20 rfl ?_
  refine zi_pureV O [23, 24, 25, 26, 27, 28] c_Mov_118 k_Edg_withLabel m7 d_Mov_push_21 ⟨(Nat.le_of_ble_eq_true rfl), (Nat.le_of_ble_eq_true rfl)⟩ ⟨(Nat.le_of_ble_eq_true rfl), (Nat.le_of_ble_eq_true rfl)⟩ rfl rfl (Nat.le_of_ble_eq_true rfl) rfl rfl rfl rfl rfl (Nat.le_of_ble_eq_true rfl) rfl ?_
  refine zi_istore (ls' := _ :: _ :: _ :: _ :: _ :: _ :: _ :: some _ :: _) O d_Mov_push_24 rfl (by decide) rfl ?_
  refine zi_iload O d_Mov_push_26 rfl ?_
  refine zi_if_lt O 58 d_Mov_push_28 (by decide) (fun c28 => ?_) (fun c28 => ?_)
  · refine zi_iconstN O 0 d_Mov_push_58 (by decide) ?_
    refine zi_widen (Nat.zero_le 2) (Nat.zero_le 6) ?_
    refine zi_zret O d_Mov_push_59 rfl (Nat.le_of_ble_eq_true rfl) (Nat.le_of_ble_eq_true rfl) (Nat.le_of_ble_eq_true rfl) ?_
    refine Or.inl ⟨rfl, rfl, fun e f q => ?_⟩
    rcases k6 with ⟨e', he, -, rfl⟩ | ⟨k6, -⟩
    · exact nI_pos (by omega) c28
    · exact k6 e q.1 q.2.2.1
  · rcases k6 with ⟨e, he, rfl, rfl⟩ | ⟨-, rfl⟩
    rotate_left
    · exact absurd (by decide) c28
    refine zi_iload O d_Mov_push_31 rfl ?_
    refine zi_if_lt O 58 d_Mov_push_33 (by decide) (fun c33 => ?_) (fun c33 => ?_)
    · refine zi_iconstN O 0 d_Mov_push_58 (by decide) ?_
      refine zi_widen (Nat.zero_le 2) (Nat.zero_le 6) ?_
      refine zi_zret O d_Mov_push_59 rfl (Nat.le_of_ble_eq_true rfl) (Nat.le_of_ble_eq_true rfl) (Nat.le_of_ble_eq_true rfl) ?_
      refine Or.inl ⟨rfl, rfl, fun e f q => ?_⟩
      rcases k7 with ⟨e', he, -, rfl⟩ | ⟨k7, -⟩
      · exact nI_pos (by omega) c33
      · exact k7 f q.2.1 q.2.2.2.1
    · rcases k7 with ⟨f, hf, rfl, rfl⟩ | ⟨-, rfl⟩
      rotate_left
      · exact absurd (by decide) c33
      refine zi_iload O d_Mov_push_36 rfl ?_
      refine zi_iload O d_Mov_push_38 rfl ?_
      refine zi_icmp_eqN O 58 d_Mov_push_40 (by decide) (by omega) (by omega) (fun c40 => ?_) (fun c40 => ?_)
      · refine zi_iconstN O 0 d_Mov_push_58 (by decide) ?_
        refine zi_widen (Nat.zero_le 2) (Nat.zero_le 6) ?_
        refine zi_zret O d_Mov_push_59 rfl (Nat.le_of_ble_eq_true rfl) (Nat.le_of_ble_eq_true rfl) (Nat.le_of_ble_eq_true rfl) ?_
        refine Or.inl ⟨rfl, rfl, fun e' f' q => ?_⟩
        obtain ⟨q1, q2, q3, q4, q5, -⟩ := q
        have a1 := el_uniq hR hE he q1 q3
        have a2 := el_uniq hR hE hf q2 q4
        omega
      · refine zi_aload_n O d_Mov_push_43 rfl ?_
        refine zi_get O f_Mov_12 d_Mov_push_44 rfl rfl ?_
        refine zi_get O f_Mov_26 d_Mov_push_47 rfl rfl ?_
        refine zi_get O f_Mov_40 d_Mov_push_50 rfl rfl ?_
        refine zi_bipushN O 18 d_Mov_push_53 (by decide) ?_
        refine zi_icmp_leN O 60 d_Mov_push_55 (by decide) (by omega) (by omega) (fun c55 => ?_) (fun c55 => ?_)
        rotate_left
        · refine zi_iconstN O 0 d_Mov_push_58 (by decide) ?_
          refine zi_widen (Nat.zero_le 2) (Nat.zero_le 6) ?_
          refine zi_zret O d_Mov_push_59 rfl (Nat.le_of_ble_eq_true rfl) (Nat.le_of_ble_eq_true rfl) (Nat.le_of_ble_eq_true rfl) ?_
          exact Or.inl ⟨rfl, rfl, fun e' f' q => by have := q.2.2.2.2.2.1; omega⟩
        refine zi_aload_n O d_Mov_push_60 rfl ?_
        refine zi_get O f_Mov_12 d_Mov_push_61 rfl rfl ?_
        refine zi_iconstN O 2 d_Mov_push_64 (by decide) ?_
        refine zi_iload O d_Mov_push_65 rfl ?_
        first | refine zi_imulN O d_Mov_push_67 ?_ | refine zi_imul O d_Mov_push_67 ?_
        refine zi_iload_n O d_Mov_push_68 rfl ?_
        refine zi_if_eq O 76 d_Mov_push_69 (by decide) (fun c69 => ?_) (fun c69 => ?_)
        rotate_left
        · exact absurd rfl c69
        refine zi_iconstN O 0 d_Mov_push_76 (by decide) ?_
        first | refine zi_iaddN O d_Mov_push_77 ?_ | refine zi_iadd O d_Mov_push_77 ?_
        refine zi_iconstN O 2 d_Mov_push_78 (by decide) ?_
        refine zi_iload O d_Mov_push_79 rfl ?_
        first | refine zi_imulN O d_Mov_push_81 ?_ | refine zi_imul O d_Mov_push_81 ?_
        refine zi_iload O d_Mov_push_82 rfl ?_
        refine zi_if_eq O 91 d_Mov_push_84 (by decide) (fun c84 => ?_) (fun c84 => ?_)
        rotate_left
        · exact absurd rfl c84
        refine zi_iconstN O 0 d_Mov_push_91 (by decide) ?_
        first | refine zi_iaddN O d_Mov_push_92 ?_ | refine zi_iadd O d_Mov_push_92 ?_
        refine zi_iload O d_Mov_push_93 rfl ?_
        by_cases hm : meet n fr to_ at_ oc (2 * e + dI false) (2 * f + dI false)
        · refine zi_blkV O 19 (zo 0 [.ref 19, .ref 1] :: (diaH cj k L' T m' PL' LB' FR' TO' AT' F' OF' RD' ST' pc' co' OC' CE' SL').map (zc (fun q => q + 1))) (diaH ci n L S (2 * n) PL LB FR TO AT (FF (nxD fr to_ at_) (4 * n) (4 * n)).2 OF RD ST (rc oc n) (FF (nxE to_ at_) (2 * n) (2 * n)).2 OC CE SL) ([]) rfl rfl c_Mov_121 k_Dia_pushDart (m_Dia_pushDart hPk ov (2 * e + dI false) (2 * f + dI false) (by have h1 := dI_le true; have h2 := dI_le false; omega) (by have h1 := dI_le true; have h2 := dI_le false; omega) c55 hm u v w z hu hv hw hzz) d_Mov_push_95 ⟨(Nat.le_of_ble_eq_true rfl), (Nat.le_of_ble_eq_true rfl)⟩ ⟨(Nat.le_of_ble_eq_true rfl), (Nat.le_of_ble_eq_true rfl)⟩ rfl rfl (Nat.le_of_ble_eq_true rfl) rfl rfl rfl (Nat.le_of_ble_eq_true rfl) rfl rfl (fun r h' hq => ?_) rfl (fun r h' hq => ?_)
          · exact chq_blk hq.2 rfl
          · obtain ⟨rfl, hC⟩ := hq
            have hC1 := hC
            obtain ⟨X1, x2, X3, X4, X5, X6, X7, x8, X9, X10, X11, x12, x13, X14, X15, X16, rfl⟩ := dr_form (chq_dr hC1)
            refine zi_st (st' := [.int (nI 1)]) rfl (zi_h (h' := movH 19 1 (diaH cj k L' T m' PL' LB' FR' TO' AT' F' OF' RD' ST' pc' co' OC' CE' SL') (diaH ci (n + 1 + 1) X1 (upd (upd S n (phS ov (decide ((2 * e + dI false) % 2 = 0)) (decide ((2 * f + dI false) % 2 = 0)))) (n + 1) (-phS ov (decide ((2 * e + dI false) % 2 = 0)) (decide ((2 * f + dI false) % 2 = 0)))) x2 X3 X4 X5 X6 X7 x8 X9 X10 X11 x12 x13 X14 X15 X16)) rfl ?_)
            refine zi_zret O d_Mov_push_98 rfl (Nat.le_of_ble_eq_true rfl) (Nat.le_of_ble_eq_true rfl) (Nat.le_of_ble_eq_true rfl) ?_
            exact Or.inr ⟨e, f, ⟨he, hf, rfl, rfl, c40, c55, hm⟩, rfl, Or.inr ⟨_, _, hRk, hC, rfl⟩⟩
        · refine zi_blkP O 19 (zo 0 [.ref 19, .ref 1] :: (diaH cj k L' T m' PL' LB' FR' TO' AT' F' OF' RD' ST' pc' co' OC' CE' SL').map (zc (fun q => q + 1))) (diaH ci n L S (2 * n) PL LB FR TO AT (FF (nxD fr to_ at_) (4 * n) (4 * n)).2 OF RD ST (rc oc n) (FF (nxE to_ at_) (2 * n) (2 * n)).2 OC CE SL) ([]) rfl rfl c_Mov_121 k_Dia_pushDart (m_Dia_pushDart_no hPk (2 * e + dI false) (2 * f + dI false) (bI ov) (by have h1 := dI_le true; have h2 := dI_le false; omega) (by have h1 := dI_le true; have h2 := dI_le false; omega) hm) d_Mov_push_95 ⟨(Nat.le_of_ble_eq_true rfl), (Nat.le_of_ble_eq_true rfl)⟩ ⟨(Nat.le_of_ble_eq_true rfl), (Nat.le_of_ble_eq_true rfl)⟩ rfl rfl (Nat.le_of_ble_eq_true rfl) rfl rfl rfl (Nat.le_of_ble_eq_true rfl) rfl rfl rfl ?_
          refine zi_widen (Nat.zero_le 2) (Nat.zero_le 6) ?_
          refine zi_zret O d_Mov_push_98 rfl (Nat.le_of_ble_eq_true rfl) (Nat.le_of_ble_eq_true rfl) (Nat.le_of_ble_eq_true rfl) ?_
          refine Or.inl ⟨rfl, rfl, fun e' f' q => ?_⟩
          obtain ⟨q1, q2, q3, q4, q5, q6, q7⟩ := q
          have a1 := el_uniq hR hE he q1 q3
          have a2 := el_uniq hR hE hf q2 q4
          subst a1
          subst a2
          exact hm q7
set_option maxHeartbeats 2000000 in
theorem m_Mov_push_01_2 {hA hB : List zE} (hP0 : Dia n lab S ci el fr to_ at_ oc hA) (hR0 : Dr k plab T cj hB) (x y : Int32) (ov : Bool) (u v w z : Nat) (hu : u = fN el 0 (2 * n)) (hv : v = fN el u (2 * n)) (hw : w = fN el v (2 * n)) (hzz : z = fN el w (2 * n)) : zMet y_Mov_push b_Mov_push 8 (some .boolean) ⟨7, 2, 6, 200⟩ [.ref 0, .int x, .int (bI false), .int y, .int (bI true), .int (bI ov)] (movH 19 1 hB hA)
    (fun r h' => (r = some (.int (nI 0)) ∧ h' = movH 19 1 hB hA ∧ ∀ e f, ¬ PushOK n el fr to_ at_ oc x y false true e f) ∨ (∃ e f, PushOK n el fr to_ at_ oc x y false true e f ∧ r = some (.int (nI 1)) ∧ Mv (ChQ (n + 1 + 1) (phL ov (decide ((2 * e + dI false) % 2 = 0)) (decide ((2 * f + dI true) % 2 = 0)) (va_up (va_up lab (to_ ((2 * e + dI false) / 2)) v) (to_ ((2 * f + dI true) / 2)) z) n (el ((2 * e + dI false) / 2)) u v (el ((2 * f + dI true) / 2)) w z) (upd (upd S n (phS ov (decide ((2 * e + dI false) % 2 = 0)) (decide ((2 * f + dI true) % 2 = 0)))) (n + 1) (-phS ov (decide ((2 * e + dI false) % 2 = 0)) (decide ((2 * f + dI true) % 2 = 0)))) ci) (Dr k plab T cj) h')) := by
  have hPk := hP0
  have hRk := hR0
  obtain ⟨L, PL, LB, FR, TO, AT, OF, RD, ST, OC, CE, SL, rfl, hR, hG, hz, hE, hA, hRd, hO, hP, hOF⟩ := hP0
  have hn := hR.1
  have hFF := ff_le (by omega) (perm_D hE) (Nat.le_refl (4 * n))
  obtain ⟨L', m', PL', LB', FR', TO', AT', F', OF', RD', ST', pc', co', OC', CE', SL', rfl, hR', hG', hz'⟩ := hR0
  obtain ⟨r6, m6, k6⟩ := wl_tot (PL := PL) hR hE hA x
  obtain ⟨r7, m7, k7⟩ := wl_tot (PL := PL) hR hE hA y
  refine zMet_of (plainFor_of_name (by decide +kernel)) rfl (Nat.le_of_ble_eq_true rfl) (fun z1 z2 z3 z4 z5 z6 z7 z8 z9 z10 z11 z12 z13 z14 O hin => ?_)
  refine zi_ls (ls' := [some (.ref 0), some (.int x), some (.int (bI false)), some (.int y), some (.int (bI true)), some (.int (bI ov)), none, none]) rfl ?_
  refine zi_aload_n O d_Mov_push_0 rfl ?_
  refine zi_get O f_Mov_12 d_Mov_push_1 rfl rfl ?_
  refine zi_get O f_Mov_71 d_Mov_push_4 rfl rfl ?_
  refine zi_iload_n O d_Mov_push_7 rfl ?_
  refine zi_pureV O [23, 24, 25, 26, 27, 28] c_Mov_118 k_Edg_withLabel m6 d_Mov_push_8 ⟨(Nat.le_of_ble_eq_true rfl), (Nat.le_of_ble_eq_true rfl)⟩ ⟨(Nat.le_of_ble_eq_true rfl), (Nat.le_of_ble_eq_true rfl)⟩ rfl rfl (Nat.le_of_ble_eq_true rfl) rfl rfl rfl rfl rfl (Nat.le_of_ble_eq_true rfl) rfl ?_
  refine zi_istore (ls' := _ :: _ :: _ :: _ :: _ :: _ :: some _ :: _) O d_Mov_push_11 rfl (by decide) rfl ?_
  refine zi_aload_n O d_Mov_push_13 rfl ?_
  refine zi_get O f_Mov_12 d_Mov_push_14 rfl rfl ?_
  refine zi_get O f_Mov_71 d_Mov_push_17 rfl rfl ?_
  refine zi_iload_n O d_Mov_push_20 rfl ?_
  refine zi_pureV O [23, 24, 25, 26, 27, 28] c_Mov_118 k_Edg_withLabel m7 d_Mov_push_21 ⟨(Nat.le_of_ble_eq_true rfl), (Nat.le_of_ble_eq_true rfl)⟩ ⟨(Nat.le_of_ble_eq_true rfl), (Nat.le_of_ble_eq_true rfl)⟩ rfl rfl (Nat.le_of_ble_eq_true rfl) rfl rfl rfl rfl rfl (Nat.le_of_ble_eq_true rfl) rfl ?_
  refine zi_istore (ls' := _ :: _ :: _ :: _ :: _ :: _ :: _ :: some _ :: _) O d_Mov_push_24 rfl (by decide) rfl ?_
  refine zi_iload O d_Mov_push_26 rfl ?_
  refine zi_if_lt O 58 d_Mov_push_28 (by decide) (fun c28 => ?_) (fun c28 => ?_)
  · refine zi_iconstN O 0 d_Mov_push_58 (by decide) ?_
    refine zi_widen (Nat.zero_le 2) (Nat.zero_le 6) ?_
    refine zi_zret O d_Mov_push_59 rfl (Nat.le_of_ble_eq_true rfl) (Nat.le_of_ble_eq_true rfl) (Nat.le_of_ble_eq_true rfl) ?_
    refine Or.inl ⟨rfl, rfl, fun e f q => ?_⟩
    rcases k6 with ⟨e', he, -, rfl⟩ | ⟨k6, -⟩
    · exact nI_pos (by omega) c28
    · exact k6 e q.1 q.2.2.1
  · rcases k6 with ⟨e, he, rfl, rfl⟩ | ⟨-, rfl⟩
    rotate_left
    · exact absurd (by decide) c28
    refine zi_iload O d_Mov_push_31 rfl ?_
    refine zi_if_lt O 58 d_Mov_push_33 (by decide) (fun c33 => ?_) (fun c33 => ?_)
    · refine zi_iconstN O 0 d_Mov_push_58 (by decide) ?_
      refine zi_widen (Nat.zero_le 2) (Nat.zero_le 6) ?_
      refine zi_zret O d_Mov_push_59 rfl (Nat.le_of_ble_eq_true rfl) (Nat.le_of_ble_eq_true rfl) (Nat.le_of_ble_eq_true rfl) ?_
      refine Or.inl ⟨rfl, rfl, fun e f q => ?_⟩
      rcases k7 with ⟨e', he, -, rfl⟩ | ⟨k7, -⟩
      · exact nI_pos (by omega) c33
      · exact k7 f q.2.1 q.2.2.2.1
    · rcases k7 with ⟨f, hf, rfl, rfl⟩ | ⟨-, rfl⟩
      rotate_left
      · exact absurd (by decide) c33
      refine zi_iload O d_Mov_push_36 rfl ?_
      refine zi_iload O d_Mov_push_38 rfl ?_
      refine zi_icmp_eqN O 58 d_Mov_push_40 (by decide) (by omega) (by omega) (fun c40 => ?_) (fun c40 => ?_)
      · refine zi_iconstN O 0 d_Mov_push_58 (by decide) ?_
        refine zi_widen (Nat.zero_le 2) (Nat.zero_le 6) ?_
        refine zi_zret O d_Mov_push_59 rfl (Nat.le_of_ble_eq_true rfl) (Nat.le_of_ble_eq_true rfl) (Nat.le_of_ble_eq_true rfl) ?_
        refine Or.inl ⟨rfl, rfl, fun e' f' q => ?_⟩
        obtain ⟨q1, q2, q3, q4, q5, -⟩ := q
        have a1 := el_uniq hR hE he q1 q3
        have a2 := el_uniq hR hE hf q2 q4
        omega
      · refine zi_aload_n O d_Mov_push_43 rfl ?_
        refine zi_get O f_Mov_12 d_Mov_push_44 rfl rfl ?_
        refine zi_get O f_Mov_26 d_Mov_push_47 rfl rfl ?_
        refine zi_get O f_Mov_40 d_Mov_push_50 rfl rfl ?_
        refine zi_bipushN O 18 d_Mov_push_53 (by decide) ?_
        refine zi_icmp_leN O 60 d_Mov_push_55 (by decide) (by omega) (by omega) (fun c55 => ?_) (fun c55 => ?_)
        rotate_left
        · refine zi_iconstN O 0 d_Mov_push_58 (by decide) ?_
          refine zi_widen (Nat.zero_le 2) (Nat.zero_le 6) ?_
          refine zi_zret O d_Mov_push_59 rfl (Nat.le_of_ble_eq_true rfl) (Nat.le_of_ble_eq_true rfl) (Nat.le_of_ble_eq_true rfl) ?_
          exact Or.inl ⟨rfl, rfl, fun e' f' q => by have := q.2.2.2.2.2.1; omega⟩
        refine zi_aload_n O d_Mov_push_60 rfl ?_
        refine zi_get O f_Mov_12 d_Mov_push_61 rfl rfl ?_
        refine zi_iconstN O 2 d_Mov_push_64 (by decide) ?_
        refine zi_iload O d_Mov_push_65 rfl ?_
        first | refine zi_imulN O d_Mov_push_67 ?_ | refine zi_imul O d_Mov_push_67 ?_
        refine zi_iload_n O d_Mov_push_68 rfl ?_
        refine zi_if_eq O 76 d_Mov_push_69 (by decide) (fun c69 => ?_) (fun c69 => ?_)
        rotate_left
        · exact absurd rfl c69
        refine zi_iconstN O 0 d_Mov_push_76 (by decide) ?_
        first | refine zi_iaddN O d_Mov_push_77 ?_ | refine zi_iadd O d_Mov_push_77 ?_
        refine zi_iconstN O 2 d_Mov_push_78 (by decide) ?_
        refine zi_iload O d_Mov_push_79 rfl ?_
        first | refine zi_imulN O d_Mov_push_81 ?_ | refine zi_imul O d_Mov_push_81 ?_
        refine zi_iload O d_Mov_push_82 rfl ?_
        refine zi_if_eq O 91 d_Mov_push_84 (by decide) (fun c84 => ?_) (fun c84 => ?_)
        · exact absurd c84 (by decide)
        refine zi_iconstN O 1 d_Mov_push_87 (by decide) ?_
        refine zi_goto O 92 d_Mov_push_88 (by decide) ?_
        first | refine zi_iaddN O d_Mov_push_92 ?_ | refine zi_iadd O d_Mov_push_92 ?_
        refine zi_iload O d_Mov_push_93 rfl ?_
        by_cases hm : meet n fr to_ at_ oc (2 * e + dI false) (2 * f + dI true)
        · refine zi_blkV O 19 (zo 0 [.ref 19, .ref 1] :: (diaH cj k L' T m' PL' LB' FR' TO' AT' F' OF' RD' ST' pc' co' OC' CE' SL').map (zc (fun q => q + 1))) (diaH ci n L S (2 * n) PL LB FR TO AT (FF (nxD fr to_ at_) (4 * n) (4 * n)).2 OF RD ST (rc oc n) (FF (nxE to_ at_) (2 * n) (2 * n)).2 OC CE SL) ([]) rfl rfl c_Mov_121 k_Dia_pushDart (m_Dia_pushDart hPk ov (2 * e + dI false) (2 * f + dI true) (by have h1 := dI_le true; have h2 := dI_le false; omega) (by have h1 := dI_le true; have h2 := dI_le false; omega) c55 hm u v w z hu hv hw hzz) d_Mov_push_95 ⟨(Nat.le_of_ble_eq_true rfl), (Nat.le_of_ble_eq_true rfl)⟩ ⟨(Nat.le_of_ble_eq_true rfl), (Nat.le_of_ble_eq_true rfl)⟩ rfl rfl (Nat.le_of_ble_eq_true rfl) rfl rfl rfl (Nat.le_of_ble_eq_true rfl) rfl rfl (fun r h' hq => ?_) rfl (fun r h' hq => ?_)
          · exact chq_blk hq.2 rfl
          · obtain ⟨rfl, hC⟩ := hq
            have hC1 := hC
            obtain ⟨X1, x2, X3, X4, X5, X6, X7, x8, X9, X10, X11, x12, x13, X14, X15, X16, rfl⟩ := dr_form (chq_dr hC1)
            refine zi_st (st' := [.int (nI 1)]) rfl (zi_h (h' := movH 19 1 (diaH cj k L' T m' PL' LB' FR' TO' AT' F' OF' RD' ST' pc' co' OC' CE' SL') (diaH ci (n + 1 + 1) X1 (upd (upd S n (phS ov (decide ((2 * e + dI false) % 2 = 0)) (decide ((2 * f + dI true) % 2 = 0)))) (n + 1) (-phS ov (decide ((2 * e + dI false) % 2 = 0)) (decide ((2 * f + dI true) % 2 = 0)))) x2 X3 X4 X5 X6 X7 x8 X9 X10 X11 x12 x13 X14 X15 X16)) rfl ?_)
            refine zi_zret O d_Mov_push_98 rfl (Nat.le_of_ble_eq_true rfl) (Nat.le_of_ble_eq_true rfl) (Nat.le_of_ble_eq_true rfl) ?_
            exact Or.inr ⟨e, f, ⟨he, hf, rfl, rfl, c40, c55, hm⟩, rfl, Or.inr ⟨_, _, hRk, hC, rfl⟩⟩
        · refine zi_blkP O 19 (zo 0 [.ref 19, .ref 1] :: (diaH cj k L' T m' PL' LB' FR' TO' AT' F' OF' RD' ST' pc' co' OC' CE' SL').map (zc (fun q => q + 1))) (diaH ci n L S (2 * n) PL LB FR TO AT (FF (nxD fr to_ at_) (4 * n) (4 * n)).2 OF RD ST (rc oc n) (FF (nxE to_ at_) (2 * n) (2 * n)).2 OC CE SL) ([]) rfl rfl c_Mov_121 k_Dia_pushDart (m_Dia_pushDart_no hPk (2 * e + dI false) (2 * f + dI true) (bI ov) (by have h1 := dI_le true; have h2 := dI_le false; omega) (by have h1 := dI_le true; have h2 := dI_le false; omega) hm) d_Mov_push_95 ⟨(Nat.le_of_ble_eq_true rfl), (Nat.le_of_ble_eq_true rfl)⟩ ⟨(Nat.le_of_ble_eq_true rfl), (Nat.le_of_ble_eq_true rfl)⟩ rfl rfl (Nat.le_of_ble_eq_true rfl) rfl rfl rfl (Nat.le_of_ble_eq_true rfl) rfl rfl rfl ?_
          refine zi_widen (Nat.zero_le 2) (Nat.zero_le 6) ?_
          refine zi_zret O d_Mov_push_98 rfl (Nat.le_of_ble_eq_true rfl) (Nat.le_of_ble_eq_true rfl) (Nat.le_of_ble_eq_true rfl) ?_
          refine Or.inl ⟨rfl, rfl, fun e' f' q => ?_⟩
          obtain ⟨q1, q2, q3, q4, q5, q6, q7⟩ := q
          have a1 := el_uniq hR hE he q1 q3
          have a2 := el_uniq hR hE hf q2 q4
          subst a1
          subst a2
          exact hm q7
set_option maxHeartbeats 2000000 in
theorem m_Mov_push_10_2 {hA hB : List zE} (hP0 : Dia n lab S ci el fr to_ at_ oc hA) (hR0 : Dr k plab T cj hB) (x y : Int32) (ov : Bool) (u v w z : Nat) (hu : u = fN el 0 (2 * n)) (hv : v = fN el u (2 * n)) (hw : w = fN el v (2 * n)) (hzz : z = fN el w (2 * n)) : zMet y_Mov_push b_Mov_push 8 (some .boolean) ⟨7, 2, 6, 200⟩ [.ref 0, .int x, .int (bI true), .int y, .int (bI false), .int (bI ov)] (movH 19 1 hB hA)
    (fun r h' => (r = some (.int (nI 0)) ∧ h' = movH 19 1 hB hA ∧ ∀ e f, ¬ PushOK n el fr to_ at_ oc x y true false e f) ∨ (∃ e f, PushOK n el fr to_ at_ oc x y true false e f ∧ r = some (.int (nI 1)) ∧ Mv (ChQ (n + 1 + 1) (phL ov (decide ((2 * e + dI true) % 2 = 0)) (decide ((2 * f + dI false) % 2 = 0)) (va_up (va_up lab (to_ ((2 * e + dI true) / 2)) v) (to_ ((2 * f + dI false) / 2)) z) n (el ((2 * e + dI true) / 2)) u v (el ((2 * f + dI false) / 2)) w z) (upd (upd S n (phS ov (decide ((2 * e + dI true) % 2 = 0)) (decide ((2 * f + dI false) % 2 = 0)))) (n + 1) (-phS ov (decide ((2 * e + dI true) % 2 = 0)) (decide ((2 * f + dI false) % 2 = 0)))) ci) (Dr k plab T cj) h')) := by
  have hPk := hP0
  have hRk := hR0
  obtain ⟨L, PL, LB, FR, TO, AT, OF, RD, ST, OC, CE, SL, rfl, hR, hG, hz, hE, hA, hRd, hO, hP, hOF⟩ := hP0
  have hn := hR.1
  have hFF := ff_le (by omega) (perm_D hE) (Nat.le_refl (4 * n))
  obtain ⟨L', m', PL', LB', FR', TO', AT', F', OF', RD', ST', pc', co', OC', CE', SL', rfl, hR', hG', hz'⟩ := hR0
  obtain ⟨r6, m6, k6⟩ := wl_tot (PL := PL) hR hE hA x
  obtain ⟨r7, m7, k7⟩ := wl_tot (PL := PL) hR hE hA y
  refine zMet_of (plainFor_of_name (by decide +kernel)) rfl (Nat.le_of_ble_eq_true rfl) (fun z1 z2 z3 z4 z5 z6 z7 z8 z9 z10 z11 z12 z13 z14 O hin => ?_)
  refine zi_ls (ls' := [some (.ref 0), some (.int x), some (.int (bI true)), some (.int y), some (.int (bI false)), some (.int (bI ov)), none, none]) rfl ?_
  refine zi_aload_n O d_Mov_push_0 rfl ?_
  refine zi_get O f_Mov_12 d_Mov_push_1 rfl rfl ?_
  refine zi_get O f_Mov_71 d_Mov_push_4 rfl rfl ?_
  refine zi_iload_n O d_Mov_push_7 rfl ?_
  refine zi_pureV O [23, 24, 25, 26, 27, 28] c_Mov_118 k_Edg_withLabel m6 d_Mov_push_8 ⟨(Nat.le_of_ble_eq_true rfl), (Nat.le_of_ble_eq_true rfl)⟩ ⟨(Nat.le_of_ble_eq_true rfl), (Nat.le_of_ble_eq_true rfl)⟩ rfl rfl (Nat.le_of_ble_eq_true rfl) rfl rfl rfl rfl rfl (Nat.le_of_ble_eq_true rfl) rfl ?_
  refine zi_istore (ls' := _ :: _ :: _ :: _ :: _ :: _ :: some _ :: _) O d_Mov_push_11 rfl (by decide) rfl ?_
  refine zi_aload_n O d_Mov_push_13 rfl ?_
  refine zi_get O f_Mov_12 d_Mov_push_14 rfl rfl ?_
  refine zi_get O f_Mov_71 d_Mov_push_17 rfl rfl ?_
  refine zi_iload_n O d_Mov_push_20 rfl ?_
  refine zi_pureV O [23, 24, 25, 26, 27, 28] c_Mov_118 k_Edg_withLabel m7 d_Mov_push_21 ⟨(Nat.le_of_ble_eq_true rfl), (Nat.le_of_ble_eq_true rfl)⟩ ⟨(Nat.le_of_ble_eq_true rfl), (Nat.le_of_ble_eq_true rfl)⟩ rfl rfl (Nat.le_of_ble_eq_true rfl) rfl rfl rfl rfl rfl (Nat.le_of_ble_eq_true rfl) rfl ?_
  refine zi_istore (ls' := _ :: _ :: _ :: _ :: _ :: _ :: _ :: some _ :: _) O d_Mov_push_24 rfl (by decide) rfl ?_
  refine zi_iload O d_Mov_push_26 rfl ?_
  refine zi_if_lt O 58 d_Mov_push_28 (by decide) (fun c28 => ?_) (fun c28 => ?_)
  · refine zi_iconstN O 0 d_Mov_push_58 (by decide) ?_
    refine zi_widen (Nat.zero_le 2) (Nat.zero_le 6) ?_
    refine zi_zret O d_Mov_push_59 rfl (Nat.le_of_ble_eq_true rfl) (Nat.le_of_ble_eq_true rfl) (Nat.le_of_ble_eq_true rfl) ?_
    refine Or.inl ⟨rfl, rfl, fun e f q => ?_⟩
    rcases k6 with ⟨e', he, -, rfl⟩ | ⟨k6, -⟩
    · exact nI_pos (by omega) c28
    · exact k6 e q.1 q.2.2.1
  · rcases k6 with ⟨e, he, rfl, rfl⟩ | ⟨-, rfl⟩
    rotate_left
    · exact absurd (by decide) c28
    refine zi_iload O d_Mov_push_31 rfl ?_
    refine zi_if_lt O 58 d_Mov_push_33 (by decide) (fun c33 => ?_) (fun c33 => ?_)
    · refine zi_iconstN O 0 d_Mov_push_58 (by decide) ?_
      refine zi_widen (Nat.zero_le 2) (Nat.zero_le 6) ?_
      refine zi_zret O d_Mov_push_59 rfl (Nat.le_of_ble_eq_true rfl) (Nat.le_of_ble_eq_true rfl) (Nat.le_of_ble_eq_true rfl) ?_
      refine Or.inl ⟨rfl, rfl, fun e f q => ?_⟩
      rcases k7 with ⟨e', he, -, rfl⟩ | ⟨k7, -⟩
      · exact nI_pos (by omega) c33
      · exact k7 f q.2.1 q.2.2.2.1
    · rcases k7 with ⟨f, hf, rfl, rfl⟩ | ⟨-, rfl⟩
      rotate_left
      · exact absurd (by decide) c33
      refine zi_iload O d_Mov_push_36 rfl ?_
      refine zi_iload O d_Mov_push_38 rfl ?_
      refine zi_icmp_eqN O 58 d_Mov_push_40 (by decide) (by omega) (by omega) (fun c40 => ?_) (fun c40 => ?_)
      · refine zi_iconstN O 0 d_Mov_push_58 (by decide) ?_
        refine zi_widen (Nat.zero_le 2) (Nat.zero_le 6) ?_
        refine zi_zret O d_Mov_push_59 rfl (Nat.le_of_ble_eq_true rfl) (Nat.le_of_ble_eq_true rfl) (Nat.le_of_ble_eq_true rfl) ?_
        refine Or.inl ⟨rfl, rfl, fun e' f' q => ?_⟩
        obtain ⟨q1, q2, q3, q4, q5, -⟩ := q
        have a1 := el_uniq hR hE he q1 q3
        have a2 := el_uniq hR hE hf q2 q4
        omega
      · refine zi_aload_n O d_Mov_push_43 rfl ?_
        refine zi_get O f_Mov_12 d_Mov_push_44 rfl rfl ?_
        refine zi_get O f_Mov_26 d_Mov_push_47 rfl rfl ?_
        refine zi_get O f_Mov_40 d_Mov_push_50 rfl rfl ?_
        refine zi_bipushN O 18 d_Mov_push_53 (by decide) ?_
        refine zi_icmp_leN O 60 d_Mov_push_55 (by decide) (by omega) (by omega) (fun c55 => ?_) (fun c55 => ?_)
        rotate_left
        · refine zi_iconstN O 0 d_Mov_push_58 (by decide) ?_
          refine zi_widen (Nat.zero_le 2) (Nat.zero_le 6) ?_
          refine zi_zret O d_Mov_push_59 rfl (Nat.le_of_ble_eq_true rfl) (Nat.le_of_ble_eq_true rfl) (Nat.le_of_ble_eq_true rfl) ?_
          exact Or.inl ⟨rfl, rfl, fun e' f' q => by have := q.2.2.2.2.2.1; omega⟩
        refine zi_aload_n O d_Mov_push_60 rfl ?_
        refine zi_get O f_Mov_12 d_Mov_push_61 rfl rfl ?_
        refine zi_iconstN O 2 d_Mov_push_64 (by decide) ?_
        refine zi_iload O d_Mov_push_65 rfl ?_
        first | refine zi_imulN O d_Mov_push_67 ?_ | refine zi_imul O d_Mov_push_67 ?_
        refine zi_iload_n O d_Mov_push_68 rfl ?_
        refine zi_if_eq O 76 d_Mov_push_69 (by decide) (fun c69 => ?_) (fun c69 => ?_)
        · exact absurd c69 (by decide)
        refine zi_iconstN O 1 d_Mov_push_72 (by decide) ?_
        refine zi_goto O 77 d_Mov_push_73 (by decide) ?_
        first | refine zi_iaddN O d_Mov_push_77 ?_ | refine zi_iadd O d_Mov_push_77 ?_
        refine zi_iconstN O 2 d_Mov_push_78 (by decide) ?_
        refine zi_iload O d_Mov_push_79 rfl ?_
        first | refine zi_imulN O d_Mov_push_81 ?_ | refine zi_imul O d_Mov_push_81 ?_
        refine zi_iload O d_Mov_push_82 rfl ?_
        refine zi_if_eq O 91 d_Mov_push_84 (by decide) (fun c84 => ?_) (fun c84 => ?_)
        rotate_left
        · exact absurd rfl c84
        refine zi_iconstN O 0 d_Mov_push_91 (by decide) ?_
        first | refine zi_iaddN O d_Mov_push_92 ?_ | refine zi_iadd O d_Mov_push_92 ?_
        refine zi_iload O d_Mov_push_93 rfl ?_
        by_cases hm : meet n fr to_ at_ oc (2 * e + dI true) (2 * f + dI false)
        · refine zi_blkV O 19 (zo 0 [.ref 19, .ref 1] :: (diaH cj k L' T m' PL' LB' FR' TO' AT' F' OF' RD' ST' pc' co' OC' CE' SL').map (zc (fun q => q + 1))) (diaH ci n L S (2 * n) PL LB FR TO AT (FF (nxD fr to_ at_) (4 * n) (4 * n)).2 OF RD ST (rc oc n) (FF (nxE to_ at_) (2 * n) (2 * n)).2 OC CE SL) ([]) rfl rfl c_Mov_121 k_Dia_pushDart (m_Dia_pushDart hPk ov (2 * e + dI true) (2 * f + dI false) (by have h1 := dI_le true; have h2 := dI_le false; omega) (by have h1 := dI_le true; have h2 := dI_le false; omega) c55 hm u v w z hu hv hw hzz) d_Mov_push_95 ⟨(Nat.le_of_ble_eq_true rfl), (Nat.le_of_ble_eq_true rfl)⟩ ⟨(Nat.le_of_ble_eq_true rfl), (Nat.le_of_ble_eq_true rfl)⟩ rfl rfl (Nat.le_of_ble_eq_true rfl) rfl rfl rfl (Nat.le_of_ble_eq_true rfl) rfl rfl (fun r h' hq => ?_) rfl (fun r h' hq => ?_)
          · exact chq_blk hq.2 rfl
          · obtain ⟨rfl, hC⟩ := hq
            have hC1 := hC
            obtain ⟨X1, x2, X3, X4, X5, X6, X7, x8, X9, X10, X11, x12, x13, X14, X15, X16, rfl⟩ := dr_form (chq_dr hC1)
            refine zi_st (st' := [.int (nI 1)]) rfl (zi_h (h' := movH 19 1 (diaH cj k L' T m' PL' LB' FR' TO' AT' F' OF' RD' ST' pc' co' OC' CE' SL') (diaH ci (n + 1 + 1) X1 (upd (upd S n (phS ov (decide ((2 * e + dI true) % 2 = 0)) (decide ((2 * f + dI false) % 2 = 0)))) (n + 1) (-phS ov (decide ((2 * e + dI true) % 2 = 0)) (decide ((2 * f + dI false) % 2 = 0)))) x2 X3 X4 X5 X6 X7 x8 X9 X10 X11 x12 x13 X14 X15 X16)) rfl ?_)
            refine zi_zret O d_Mov_push_98 rfl (Nat.le_of_ble_eq_true rfl) (Nat.le_of_ble_eq_true rfl) (Nat.le_of_ble_eq_true rfl) ?_
            exact Or.inr ⟨e, f, ⟨he, hf, rfl, rfl, c40, c55, hm⟩, rfl, Or.inr ⟨_, _, hRk, hC, rfl⟩⟩
        · refine zi_blkP O 19 (zo 0 [.ref 19, .ref 1] :: (diaH cj k L' T m' PL' LB' FR' TO' AT' F' OF' RD' ST' pc' co' OC' CE' SL').map (zc (fun q => q + 1))) (diaH ci n L S (2 * n) PL LB FR TO AT (FF (nxD fr to_ at_) (4 * n) (4 * n)).2 OF RD ST (rc oc n) (FF (nxE to_ at_) (2 * n) (2 * n)).2 OC CE SL) ([]) rfl rfl c_Mov_121 k_Dia_pushDart (m_Dia_pushDart_no hPk (2 * e + dI true) (2 * f + dI false) (bI ov) (by have h1 := dI_le true; have h2 := dI_le false; omega) (by have h1 := dI_le true; have h2 := dI_le false; omega) hm) d_Mov_push_95 ⟨(Nat.le_of_ble_eq_true rfl), (Nat.le_of_ble_eq_true rfl)⟩ ⟨(Nat.le_of_ble_eq_true rfl), (Nat.le_of_ble_eq_true rfl)⟩ rfl rfl (Nat.le_of_ble_eq_true rfl) rfl rfl rfl (Nat.le_of_ble_eq_true rfl) rfl rfl rfl ?_
          refine zi_widen (Nat.zero_le 2) (Nat.zero_le 6) ?_
          refine zi_zret O d_Mov_push_98 rfl (Nat.le_of_ble_eq_true rfl) (Nat.le_of_ble_eq_true rfl) (Nat.le_of_ble_eq_true rfl) ?_
          refine Or.inl ⟨rfl, rfl, fun e' f' q => ?_⟩
          obtain ⟨q1, q2, q3, q4, q5, q6, q7⟩ := q
          have a1 := el_uniq hR hE he q1 q3
          have a2 := el_uniq hR hE hf q2 q4
          subst a1
          subst a2
          exact hm q7
set_option maxHeartbeats 2000000 in
theorem m_Mov_push_11_2 {hA hB : List zE} (hP0 : Dia n lab S ci el fr to_ at_ oc hA) (hR0 : Dr k plab T cj hB) (x y : Int32) (ov : Bool) (u v w z : Nat) (hu : u = fN el 0 (2 * n)) (hv : v = fN el u (2 * n)) (hw : w = fN el v (2 * n)) (hzz : z = fN el w (2 * n)) : zMet y_Mov_push b_Mov_push 8 (some .boolean) ⟨7, 2, 6, 200⟩ [.ref 0, .int x, .int (bI true), .int y, .int (bI true), .int (bI ov)] (movH 19 1 hB hA)
    (fun r h' => (r = some (.int (nI 0)) ∧ h' = movH 19 1 hB hA ∧ ∀ e f, ¬ PushOK n el fr to_ at_ oc x y true true e f) ∨ (∃ e f, PushOK n el fr to_ at_ oc x y true true e f ∧ r = some (.int (nI 1)) ∧ Mv (ChQ (n + 1 + 1) (phL ov (decide ((2 * e + dI true) % 2 = 0)) (decide ((2 * f + dI true) % 2 = 0)) (va_up (va_up lab (to_ ((2 * e + dI true) / 2)) v) (to_ ((2 * f + dI true) / 2)) z) n (el ((2 * e + dI true) / 2)) u v (el ((2 * f + dI true) / 2)) w z) (upd (upd S n (phS ov (decide ((2 * e + dI true) % 2 = 0)) (decide ((2 * f + dI true) % 2 = 0)))) (n + 1) (-phS ov (decide ((2 * e + dI true) % 2 = 0)) (decide ((2 * f + dI true) % 2 = 0)))) ci) (Dr k plab T cj) h')) := by
  have hPk := hP0
  have hRk := hR0
  obtain ⟨L, PL, LB, FR, TO, AT, OF, RD, ST, OC, CE, SL, rfl, hR, hG, hz, hE, hA, hRd, hO, hP, hOF⟩ := hP0
  have hn := hR.1
  have hFF := ff_le (by omega) (perm_D hE) (Nat.le_refl (4 * n))
  obtain ⟨L', m', PL', LB', FR', TO', AT', F', OF', RD', ST', pc', co', OC', CE', SL', rfl, hR', hG', hz'⟩ := hR0
  obtain ⟨r6, m6, k6⟩ := wl_tot (PL := PL) hR hE hA x
  obtain ⟨r7, m7, k7⟩ := wl_tot (PL := PL) hR hE hA y
  refine zMet_of (plainFor_of_name (by decide +kernel)) rfl (Nat.le_of_ble_eq_true rfl) (fun z1 z2 z3 z4 z5 z6 z7 z8 z9 z10 z11 z12 z13 z14 O hin => ?_)
  refine zi_ls (ls' := [some (.ref 0), some (.int x), some (.int (bI true)), some (.int y), some (.int (bI true)), some (.int (bI ov)), none, none]) rfl ?_
  refine zi_aload_n O d_Mov_push_0 rfl ?_
  refine zi_get O f_Mov_12 d_Mov_push_1 rfl rfl ?_
  refine zi_get O f_Mov_71 d_Mov_push_4 rfl rfl ?_
  refine zi_iload_n O d_Mov_push_7 rfl ?_
  refine zi_pureV O [23, 24, 25, 26, 27, 28] c_Mov_118 k_Edg_withLabel m6 d_Mov_push_8 ⟨(Nat.le_of_ble_eq_true rfl), (Nat.le_of_ble_eq_true rfl)⟩ ⟨(Nat.le_of_ble_eq_true rfl), (Nat.le_of_ble_eq_true rfl)⟩ rfl rfl (Nat.le_of_ble_eq_true rfl) rfl rfl rfl rfl rfl (Nat.le_of_ble_eq_true rfl) rfl ?_
  refine zi_istore (ls' := _ :: _ :: _ :: _ :: _ :: _ :: some _ :: _) O d_Mov_push_11 rfl (by decide) rfl ?_
  refine zi_aload_n O d_Mov_push_13 rfl ?_
  refine zi_get O f_Mov_12 d_Mov_push_14 rfl rfl ?_
  refine zi_get O f_Mov_71 d_Mov_push_17 rfl rfl ?_
  refine zi_iload_n O d_Mov_push_20 rfl ?_
  refine zi_pureV O [23, 24, 25, 26, 27, 28] c_Mov_118 k_Edg_withLabel m7 d_Mov_push_21 ⟨(Nat.le_of_ble_eq_true rfl), (Nat.le_of_ble_eq_true rfl)⟩ ⟨(Nat.le_of_ble_eq_true rfl), (Nat.le_of_ble_eq_true rfl)⟩ rfl rfl (Nat.le_of_ble_eq_true rfl) rfl rfl rfl rfl rfl (Nat.le_of_ble_eq_true rfl) rfl ?_
  refine zi_istore (ls' := _ :: _ :: _ :: _ :: _ :: _ :: _ :: some _ :: _) O d_Mov_push_24 rfl (by decide) rfl ?_
  refine zi_iload O d_Mov_push_26 rfl ?_
  refine zi_if_lt O 58 d_Mov_push_28 (by decide) (fun c28 => ?_) (fun c28 => ?_)
  · refine zi_iconstN O 0 d_Mov_push_58 (by decide) ?_
    refine zi_widen (Nat.zero_le 2) (Nat.zero_le 6) ?_
    refine zi_zret O d_Mov_push_59 rfl (Nat.le_of_ble_eq_true rfl) (Nat.le_of_ble_eq_true rfl) (Nat.le_of_ble_eq_true rfl) ?_
    refine Or.inl ⟨rfl, rfl, fun e f q => ?_⟩
    rcases k6 with ⟨e', he, -, rfl⟩ | ⟨k6, -⟩
    · exact nI_pos (by omega) c28
    · exact k6 e q.1 q.2.2.1
  · rcases k6 with ⟨e, he, rfl, rfl⟩ | ⟨-, rfl⟩
    rotate_left
    · exact absurd (by decide) c28
    refine zi_iload O d_Mov_push_31 rfl ?_
    refine zi_if_lt O 58 d_Mov_push_33 (by decide) (fun c33 => ?_) (fun c33 => ?_)
    · refine zi_iconstN O 0 d_Mov_push_58 (by decide) ?_
      refine zi_widen (Nat.zero_le 2) (Nat.zero_le 6) ?_
      refine zi_zret O d_Mov_push_59 rfl (Nat.le_of_ble_eq_true rfl) (Nat.le_of_ble_eq_true rfl) (Nat.le_of_ble_eq_true rfl) ?_
      refine Or.inl ⟨rfl, rfl, fun e f q => ?_⟩
      rcases k7 with ⟨e', he, -, rfl⟩ | ⟨k7, -⟩
      · exact nI_pos (by omega) c33
      · exact k7 f q.2.1 q.2.2.2.1
    · rcases k7 with ⟨f, hf, rfl, rfl⟩ | ⟨-, rfl⟩
      rotate_left
      · exact absurd (by decide) c33
      refine zi_iload O d_Mov_push_36 rfl ?_
      refine zi_iload O d_Mov_push_38 rfl ?_
      refine zi_icmp_eqN O 58 d_Mov_push_40 (by decide) (by omega) (by omega) (fun c40 => ?_) (fun c40 => ?_)
      · refine zi_iconstN O 0 d_Mov_push_58 (by decide) ?_
        refine zi_widen (Nat.zero_le 2) (Nat.zero_le 6) ?_
        refine zi_zret O d_Mov_push_59 rfl (Nat.le_of_ble_eq_true rfl) (Nat.le_of_ble_eq_true rfl) (Nat.le_of_ble_eq_true rfl) ?_
        refine Or.inl ⟨rfl, rfl, fun e' f' q => ?_⟩
        obtain ⟨q1, q2, q3, q4, q5, -⟩ := q
        have a1 := el_uniq hR hE he q1 q3
        have a2 := el_uniq hR hE hf q2 q4
        omega
      · refine zi_aload_n O d_Mov_push_43 rfl ?_
        refine zi_get O f_Mov_12 d_Mov_push_44 rfl rfl ?_
        refine zi_get O f_Mov_26 d_Mov_push_47 rfl rfl ?_
        refine zi_get O f_Mov_40 d_Mov_push_50 rfl rfl ?_
        refine zi_bipushN O 18 d_Mov_push_53 (by decide) ?_
        refine zi_icmp_leN O 60 d_Mov_push_55 (by decide) (by omega) (by omega) (fun c55 => ?_) (fun c55 => ?_)
        rotate_left
        · refine zi_iconstN O 0 d_Mov_push_58 (by decide) ?_
          refine zi_widen (Nat.zero_le 2) (Nat.zero_le 6) ?_
          refine zi_zret O d_Mov_push_59 rfl (Nat.le_of_ble_eq_true rfl) (Nat.le_of_ble_eq_true rfl) (Nat.le_of_ble_eq_true rfl) ?_
          exact Or.inl ⟨rfl, rfl, fun e' f' q => by have := q.2.2.2.2.2.1; omega⟩
        refine zi_aload_n O d_Mov_push_60 rfl ?_
        refine zi_get O f_Mov_12 d_Mov_push_61 rfl rfl ?_
        refine zi_iconstN O 2 d_Mov_push_64 (by decide) ?_
        refine zi_iload O d_Mov_push_65 rfl ?_
        first | refine zi_imulN O d_Mov_push_67 ?_ | refine zi_imul O d_Mov_push_67 ?_
        refine zi_iload_n O d_Mov_push_68 rfl ?_
        refine zi_if_eq O 76 d_Mov_push_69 (by decide) (fun c69 => ?_) (fun c69 => ?_)
        · exact absurd c69 (by decide)
        refine zi_iconstN O 1 d_Mov_push_72 (by decide) ?_
        refine zi_goto O 77 d_Mov_push_73 (by decide) ?_
        first | refine zi_iaddN O d_Mov_push_77 ?_ | refine zi_iadd O d_Mov_push_77 ?_
        refine zi_iconstN O 2 d_Mov_push_78 (by decide) ?_
        refine zi_iload O d_Mov_push_79 rfl ?_
        first | refine zi_imulN O d_Mov_push_81 ?_ | refine zi_imul O d_Mov_push_81 ?_
        refine zi_iload O d_Mov_push_82 rfl ?_
        refine zi_if_eq O 91 d_Mov_push_84 (by decide) (fun c84 => ?_) (fun c84 => ?_)
        · exact absurd c84 (by decide)
        refine zi_iconstN O 1 d_Mov_push_87 (by decide) ?_
        refine zi_goto O 92 d_Mov_push_88 (by decide) ?_
        first | refine zi_iaddN O d_Mov_push_92 ?_ | refine zi_iadd O d_Mov_push_92 ?_
        refine zi_iload O d_Mov_push_93 rfl ?_
        by_cases hm : meet n fr to_ at_ oc (2 * e + dI true) (2 * f + dI true)
        · refine zi_blkV O 19 (zo 0 [.ref 19, .ref 1] :: (diaH cj k L' T m' PL' LB' FR' TO' AT' F' OF' RD' ST' pc' co' OC' CE' SL').map (zc (fun q => q + 1))) (diaH ci n L S (2 * n) PL LB FR TO AT (FF (nxD fr to_ at_) (4 * n) (4 * n)).2 OF RD ST (rc oc n) (FF (nxE to_ at_) (2 * n) (2 * n)).2 OC CE SL) ([]) rfl rfl c_Mov_121 k_Dia_pushDart (m_Dia_pushDart hPk ov (2 * e + dI true) (2 * f + dI true) (by have h1 := dI_le true; have h2 := dI_le false; omega) (by have h1 := dI_le true; have h2 := dI_le false; omega) c55 hm u v w z hu hv hw hzz) d_Mov_push_95 ⟨(Nat.le_of_ble_eq_true rfl), (Nat.le_of_ble_eq_true rfl)⟩ ⟨(Nat.le_of_ble_eq_true rfl), (Nat.le_of_ble_eq_true rfl)⟩ rfl rfl (Nat.le_of_ble_eq_true rfl) rfl rfl rfl (Nat.le_of_ble_eq_true rfl) rfl rfl (fun r h' hq => ?_) rfl (fun r h' hq => ?_)
          · exact chq_blk hq.2 rfl
          · obtain ⟨rfl, hC⟩ := hq
            have hC1 := hC
            obtain ⟨X1, x2, X3, X4, X5, X6, X7, x8, X9, X10, X11, x12, x13, X14, X15, X16, rfl⟩ := dr_form (chq_dr hC1)
            refine zi_st (st' := [.int (nI 1)]) rfl (zi_h (h' := movH 19 1 (diaH cj k L' T m' PL' LB' FR' TO' AT' F' OF' RD' ST' pc' co' OC' CE' SL') (diaH ci (n + 1 + 1) X1 (upd (upd S n (phS ov (decide ((2 * e + dI true) % 2 = 0)) (decide ((2 * f + dI true) % 2 = 0)))) (n + 1) (-phS ov (decide ((2 * e + dI true) % 2 = 0)) (decide ((2 * f + dI true) % 2 = 0)))) x2 X3 X4 X5 X6 X7 x8 X9 X10 X11 x12 x13 X14 X15 X16)) rfl ?_)
            refine zi_zret O d_Mov_push_98 rfl (Nat.le_of_ble_eq_true rfl) (Nat.le_of_ble_eq_true rfl) (Nat.le_of_ble_eq_true rfl) ?_
            exact Or.inr ⟨e, f, ⟨he, hf, rfl, rfl, c40, c55, hm⟩, rfl, Or.inr ⟨_, _, hRk, hC, rfl⟩⟩
        · refine zi_blkP O 19 (zo 0 [.ref 19, .ref 1] :: (diaH cj k L' T m' PL' LB' FR' TO' AT' F' OF' RD' ST' pc' co' OC' CE' SL').map (zc (fun q => q + 1))) (diaH ci n L S (2 * n) PL LB FR TO AT (FF (nxD fr to_ at_) (4 * n) (4 * n)).2 OF RD ST (rc oc n) (FF (nxE to_ at_) (2 * n) (2 * n)).2 OC CE SL) ([]) rfl rfl c_Mov_121 k_Dia_pushDart (m_Dia_pushDart_no hPk (2 * e + dI true) (2 * f + dI true) (bI ov) (by have h1 := dI_le true; have h2 := dI_le false; omega) (by have h1 := dI_le true; have h2 := dI_le false; omega) hm) d_Mov_push_95 ⟨(Nat.le_of_ble_eq_true rfl), (Nat.le_of_ble_eq_true rfl)⟩ ⟨(Nat.le_of_ble_eq_true rfl), (Nat.le_of_ble_eq_true rfl)⟩ rfl rfl (Nat.le_of_ble_eq_true rfl) rfl rfl rfl (Nat.le_of_ble_eq_true rfl) rfl rfl rfl ?_
          refine zi_widen (Nat.zero_le 2) (Nat.zero_le 6) ?_
          refine zi_zret O d_Mov_push_98 rfl (Nat.le_of_ble_eq_true rfl) (Nat.le_of_ble_eq_true rfl) (Nat.le_of_ble_eq_true rfl) ?_
          refine Or.inl ⟨rfl, rfl, fun e' f' q => ?_⟩
          obtain ⟨q1, q2, q3, q4, q5, q6, q7⟩ := q
          have a1 := el_uniq hR hE he q1 q3
          have a2 := el_uniq hR hE hf q2 q4
          subst a1
          subst a2
          exact hm q7
end
