/-! DiagramMoves.simplify -/
theorem ed_val {n : Nat} {lab : Nat → Nat} {S : Nat → Int32} {el fr to_ at_ : Nat → Nat} (hE : Ed n lab S el fr to_ at_) : C1 n lab ∧ C2 n lab S := by
  apply vd_iff.mpr
  refine ⟨fun q r hq hr e k => ?_, fun q hq => ?_⟩
  · have h1 : at_ q = at_ r := ed_inj hE (hE.2.2 q hq).1 (hE.2.2 r hr).1 (by rw [ed_lab hE hq, ed_lab hE hr, e])
    by_cases c : gi S q
    · rw [← ed_to_of hE hq c, ← ed_to_of hE hr (k.mp c), h1]
    · rw [← ed_fr_of hE hq c, ← ed_fr_of hE hr (fun z => c (k.mpr z)), h1]
  · obtain ⟨a1, -⟩ := hE.2.2 q hq
    obtain ⟨b1, b2, b3, b4, b5, b6⟩ := hE.1 _ a1
    by_cases c : gi S q
    · exact ⟨fr (at_ q), b1, by rw [b3, ed_lab hE hq], fun k => b5 (k.mp c)⟩
    · exact ⟨to_ (at_ q), b2, by rw [b4, ed_lab hE hq], fun k => c (k.mpr b6)⟩
/-- UNDO at the least face where that can be: how many went, what is there then -/
def US (n : Nat) (lab : Nat → Nat) (S : Nat → Int32) (ci : Int32) (c n' : Nat) (lab' : Nat → Nat) (S' : Nat → Int32) (ci' : Int32) : Prop := ∃ (el fr to_ at_ : Nat → Nat) (k l t : Nat), Ed n lab S el fr to_ at_ ∧ k < (FF (nxD fr to_ at_) (4 * n) (4 * n)).2 ∧ Und n fr to_ at_ k ∧ (∀ j, j < k → ¬ Und n fr to_ at_ j) ∧ FaceK n (nxD fr to_ at_) k l t ∧
  ((pat fr to_ (nxD fr to_ at_) l t = 1 ∧ c = 1 ∧ n' = n - 1 ∧ lab' = lfL lab S (ca fr to_ l) ∧ S' = rmS S n (ca fr to_ l) ∧ ci' = lfC lab S (ca fr to_ l) ci) ∨ (pat fr to_ (nxD fr to_ at_) l t = 2 ∧ c = 2 ∧ ∃ a b, a = mn (ca fr to_ l) (ca fr to_ (nxD fr to_ at_ l)) ∧ b = mx (ca fr to_ l) (ca fr to_ (nxD fr to_ at_ l)) - 1 ∧ n' = n - 1 - 1 ∧ lab' = lfL (lfL lab S a) (rmS S n a) b ∧ S' = rmS (rmS S n a) (n - 1) b ∧ ci' = lfC (lfL lab S a) (rmS S n a) b (lfC lab S a ci)))
def Fin0 (n : Nat) (lab : Nat → Nat) (S : Nat → Int32) : Prop := ∃ (el fr to_ at_ : Nat → Nat), Ed n lab S el fr to_ at_ ∧ ∀ j, j < (FF (nxD fr to_ at_) (4 * n) (4 * n)).2 → ¬ Und n fr to_ at_ j
def Simp : Nat → Nat → (Nat → Nat) → (Nat → Int32) → Int32 → Nat → Nat → (Nat → Nat) → (Nat → Int32) → Int32 → Prop
  | 0, n, lab, S, ci, g, n', lab', S', ci' => Fin0 n lab S ∧ g = 0 ∧ n' = n ∧ lab' = lab ∧ S' = S ∧ ci' = ci
  | f + 1, n, lab, S, ci, g, n', lab', S', ci' => (Fin0 n lab S ∧ g = 0 ∧ n' = n ∧ lab' = lab ∧ S' = S ∧ ci' = ci) ∨ ∃ (c n1 : Nat) (lab1 : Nat → Nat) (S1 : Nat → Int32) (ci1 : Int32) (g1 : Nat), US n lab S ci c n1 lab1 S1 ci1 ∧ g = c + g1 ∧ Simp f n1 lab1 S1 ci1 g1 n' lab' S' ci'
theorem simp_fin {f n : Nat} {lab : Nat → Nat} {S : Nat → Int32} {ci : Int32} (h : Fin0 n lab S) : Simp f n lab S ci 0 n lab S ci := by
  cases f with
  | zero => exact ⟨h, rfl, rfl, rfl, rfl, rfl⟩
  | succ f => exact Or.inl ⟨h, rfl, rfl, rfl, rfl, rfl⟩
theorem chq_dia {n : Nat} {lab : Nat → Nat} {S : Nat → Int32} {ci : Int32} {h : List zE} (hC : ChQ n lab S ci h) (hv : C1 n lab ∧ C2 n lab S) : ∃ el fr to_ at_ oc : Nat → Nat, Dia n lab S ci el fr to_ at_ oc h := by
  rcases hC with ⟨z, -⟩ | ⟨-, -, z⟩
  · exact absurd hv z
  · exact z
section
variable {n k : Nat} {lab plab : Nat → Nat} {S T : Nat → Int32} {ci cj : Int32} {el fr to_ at_ oc : Nat → Nat} {h : List zE}
/-- one turn, by the diagram's cells -/
theorem m_turn {hA : List zE} (hD : Dia n lab S ci el fr to_ at_ oc hA) : ((∀ j, j < (FF (nxD fr to_ at_) (4 * n) (4 * n)).2 → ¬ Und n fr to_ at_ j) ∧ Fin0 n lab S) ∨ (∃ j, j < (FF (nxD fr to_ at_) (4 * n) (4 * n)).2 ∧ Und n fr to_ at_ j ∧ (∀ i, i < j → ¬ Und n fr to_ at_ i) ∧ zMet y_Dia_undoAt b_Dia_undoAt 5 (some .int) ⟨5, 0, 0, 140⟩ [.ref 0, .int (nI j)] hA (fun r h' => ∃ (c n' : Nat) (lab' : Nat → Nat) (S' : Nat → Int32) (ci' : Int32), r = some (.int (nI c)) ∧ 1 ≤ c ∧ c ≤ 2 ∧ n' + 1 ≤ n ∧ US n lab S ci c n' lab' S' ci' ∧ ∃ el' fr' to' at' oc' : Nat → Nat, Dia n' lab' S' ci' el' fr' to' at' oc' h')) := by
  have hE : Ed n lab S el fr to_ at_ := by
    obtain ⟨L, PL, LB, FR, TO, AT, OF, RD, ST, OC, CE, SL, rfl, hR, hG, hz, hE, -⟩ := hD
    exact hE
  have hval := ed_val hE
  by_cases hu : ∃ j, j < (FF (nxD fr to_ at_) (4 * n) (4 * n)).2 ∧ Und n fr to_ at_ j
  · right
    obtain ⟨j, ⟨j1, j2⟩, j3⟩ := pk_least _ hu
    have j3' : ∀ i, i < j → ¬ Und n fr to_ at_ i := fun i hi z => j3 i hi ⟨by omega, z⟩
    obtain ⟨l, t, hF⟩ := dia_face hD j1
    have hl := hF.1
    have hl1 : nxD fr to_ at_ l < 4 * n := (perm_D hE).1 _ hl
    have c0 : ca fr to_ l < n := by have := ar_lt hE hl; unfold ca; omega
    have c1 : ca fr to_ (nxD fr to_ at_ l) < n := by have := ar_lt hE hl1; unfold ca; omega
    refine ⟨j, j1, j2, j3', ?_⟩
    rcases j2 l t hF with hp | hp
    · refine (m_Dia_undoAt_1 hD j l t j1 hF hp).mono (fun r h' hq => ?_)
      obtain ⟨rfl, hC⟩ := hq
      exact ⟨1, n - 1, _, _, _, rfl, by omega, by omega, by omega, ⟨el, fr, to_, at_, j, l, t, hE, j1, j2, j3', hF, Or.inl ⟨hp, rfl, rfl, rfl, rfl, rfl⟩⟩, chq_dia hC (val_lift hval c0)⟩
    · refine (m_Dia_undoAt_2 hD j l t _ _ j1 hF hp rfl rfl).mono (fun r h' hq => ?_)
      obtain ⟨rfl, han, hbn, hC⟩ := hq
      exact ⟨2, n - 1 - 1, _, _, _, rfl, by omega, by omega, by omega, ⟨el, fr, to_, at_, j, l, t, hE, j1, j2, j3', hF, Or.inr ⟨hp, rfl, _, _, rfl, rfl, rfl, rfl, rfl, rfl⟩⟩, chq_dia hC (val_lift (val_lift hval han) hbn)⟩
  · left
    have hno : ∀ j, j < (FF (nxD fr to_ at_) (4 * n) (4 * n)).2 → ¬ Und n fr to_ at_ j := fun j hj z => hu ⟨j, hj, z⟩
    exact ⟨hno, el, fr, to_, at_, hE, hno⟩
set_option maxHeartbeats 2000000 in
theorem m_Mov_simplify_1 {hA hB : List zE} (hP0 : Dia n lab S ci el fr to_ at_ oc hA) (hR0 : Dr k plab T cj hB) : zMet y_Mov_simplify b_Mov_simplify 4 (some .int) ⟨6, 0, 0, 170⟩ [.ref 0] (movH 1 19 hA hB)
    (fun r h' => ∃ (g n' : Nat) (lab' : Nat → Nat) (S' : Nat → Int32) (ci' : Int32), r = some (.int (nI g)) ∧ Simp 20 n lab S ci g n' lab' S' ci' ∧ ∃ el' fr' to' at' oc' : Nat → Nat, Mv (Dia n' lab' S' ci' el' fr' to' at' oc') (Dr k plab T cj) h') := by
  have hn : n ≤ 20 := by
    obtain ⟨L, PL, LB, FR, TO, AT, OF, RD, ST, OC, CE, SL, rfl, hR, -⟩ := hP0
    exact hR.1
  have hD0 := dia_dr hP0
  have hRk := hR0
  obtain ⟨L, m, PL, LB, FR, TO, AT, F, OF, RD, ST, pc, co, OC, CE, SL, rfl⟩ := dr_form hD0
  obtain ⟨L', m', PL', LB', FR', TO', AT', F', OF', RD', ST', pc', co', OC', CE', SL', rfl⟩ := dr_form hR0
  refine zMet_of (plainFor_of_name (by decide +kernel)) rfl (Nat.le_of_ble_eq_true rfl) (fun z1 z2 z3 z4 z5 z6 z7 z8 z9 z10 z11 z12 z13 z14 O hin => ?_)
  refine zi_ls (ls' := [some (.ref 0), none, none, none]) rfl ?_
  refine zi_iconstN O 0 d_Mov_simplify_0 (by decide) ?_
  refine zi_istore_n (ls' := _ :: some _ :: _) O d_Mov_simplify_1 rfl (by decide) rfl ?_
  refine zi_iconstN O 0 d_Mov_simplify_2 (by decide) ?_
  refine zi_istore_n (ls' := _ :: _ :: some _ :: _) O d_Mov_simplify_3 rfl (by decide) rfl ?_
  refine zi_loop (σ := Nat × Nat × (Nat × (Nat → Nat) × (Nat → Int32) × Int32) × List zE) (fun x => [some (.ref 0), some (.int (nI x.2.1)), some (.int (nI x.1)), none]) (fun x => movH 1 19 x.2.2.2 (diaH cj k L' T m' PL' LB' FR' TO' AT' F' OF' RD' ST' pc' co' OC' CE' SL'))
    (fun x => x.1 + x.2.2.1.1 ≤ n ∧ x.2.1 ≤ 2 * x.1 ∧ (∃ el fr to_ at_ oc : Nat → Nat, Dia x.2.2.1.1 x.2.2.1.2.1 x.2.2.1.2.2.1 x.2.2.1.2.2.2 el fr to_ at_ oc x.2.2.2) ∧ ∀ (g1 n' : Nat) (lab' : Nat → Nat) (S' : Nat → Int32) (ci' : Int32), Simp (20 - x.1) x.2.2.1.1 x.2.2.1.2.1 x.2.2.1.2.2.1 x.2.2.1.2.2.2 g1 n' lab' S' ci' → Simp 20 n lab S ci (x.2.1 + g1) n' lab' S' ci') (fun x => 20 - x.1) (0, 0, (n, lab, S, ci), diaH ci n L S m PL LB FR TO AT F OF RD ST pc co OC CE SL) rfl rfl ⟨by dsimp only; omega, by dsimp only; omega, ⟨el, fr, to_, at_, oc, hP0⟩, fun g1 n' lab' S' ci' hs => by dsimp only at hs ⊢; rw [Nat.zero_add]; exact hs⟩ ?_
  rintro ⟨i, g, ⟨n1, lab1, S1, c1⟩, hX⟩ ⟨i1, i2, ⟨el, fr, to_, at_, oc, hD⟩, i3⟩ ih
  dsimp only at i1 i2 hD i3 ih ⊢
  have hD1 := dia_dr hD
  have hturn := m_turn hD
  have hFF : (FF (nxD fr to_ at_) (4 * n1) (4 * n1)).2 ≤ 4 * n1 := by
    obtain ⟨L, PL, LB, FR, TO, AT, OF, RD, ST, OC, CE, SL, rfl, hR, hG, hz, hE, -⟩ := hD
    exact ff_le (by have := hR.1; omega) (perm_D hE) (Nat.le_refl (4 * n1))
  obtain ⟨L1, m1, P1, B1, F1, T1, A1, f1, O1, R1, Z1, p1, o1, C1', E1, Y1, rfl⟩ := dr_form hD1
  refine zi_iload_n O d_Mov_simplify_4 rfl ?_
  refine zi_bipushN O 20 d_Mov_simplify_5 (by decide) ?_
  refine zi_icmp_gtN O 42 d_Mov_simplify_7 (by decide) (by omega) (by omega) (fun c7 => ?_) (fun c7 => ?_)
  · omega
  · refine zi_aload_n O d_Mov_simplify_10 rfl ?_
    refine zi_get O f_Mov_12 d_Mov_simplify_11 rfl rfl ?_
    rcases hturn with ⟨hno, hfin⟩ | ⟨j, j1, j2, j3, hun⟩
    · refine zi_blkP O 1 ([zo 0 [.ref 1, .ref 19]]) (diaH c1 n1 L1 S1 m1 P1 B1 F1 T1 A1 f1 O1 R1 Z1 p1 o1 C1' E1 Y1) ((diaH cj k L' T m' PL' LB' FR' TO' AT' F' OF' RD' ST' pc' co' OC' CE' SL').map (zc (fun q => q + 19))) rfl rfl c_Mov_124 k_Dia_leastFaceToUndo (m_Dia_leastFaceToUndo_no hD hno) d_Mov_simplify_14 ⟨(Nat.le_of_ble_eq_true rfl), (Nat.le_of_ble_eq_true rfl)⟩ ⟨(Nat.le_of_ble_eq_true rfl), (Nat.le_of_ble_eq_true rfl)⟩ rfl rfl (Nat.le_of_ble_eq_true rfl) rfl rfl rfl (Nat.le_of_ble_eq_true rfl) rfl rfl rfl ?_
      refine zi_istore_n (ls' := _ :: _ :: _ :: some _ :: _) O d_Mov_simplify_17 rfl (by decide) rfl ?_
      refine zi_iload_n O d_Mov_simplify_18 rfl ?_
      refine zi_if_ge O 25 d_Mov_simplify_19 (by decide) (fun c19 => ?_) (fun c19 => ?_)
      · exact absurd c19 (by decide)
      · refine zi_goto O 42 d_Mov_simplify_22 (by decide) ?_
        refine zi_iload_n O d_Mov_simplify_42 rfl ?_
        refine zi_iret O d_Mov_simplify_43 (Nat.le_of_ble_eq_true rfl) (Nat.le_of_ble_eq_true rfl) (Nat.le_of_ble_eq_true rfl) ?_
        exact ⟨g, n1, lab1, S1, c1, rfl, i3 0 n1 lab1 S1 c1 (simp_fin hfin), el, fr, to_, at_, oc, Or.inl ⟨_, _, hD, hRk, rfl⟩⟩
    · refine zi_blkP O 1 ([zo 0 [.ref 1, .ref 19]]) (diaH c1 n1 L1 S1 m1 P1 B1 F1 T1 A1 f1 O1 R1 Z1 p1 o1 C1' E1 Y1) ((diaH cj k L' T m' PL' LB' FR' TO' AT' F' OF' RD' ST' pc' co' OC' CE' SL').map (zc (fun q => q + 19))) rfl rfl c_Mov_124 k_Dia_leastFaceToUndo (m_Dia_leastFaceToUndo hD j j1 j2 j3) d_Mov_simplify_14 ⟨(Nat.le_of_ble_eq_true rfl), (Nat.le_of_ble_eq_true rfl)⟩ ⟨(Nat.le_of_ble_eq_true rfl), (Nat.le_of_ble_eq_true rfl)⟩ rfl rfl (Nat.le_of_ble_eq_true rfl) rfl rfl rfl (Nat.le_of_ble_eq_true rfl) rfl rfl rfl ?_
      refine zi_istore_n (ls' := _ :: _ :: _ :: some _ :: _) O d_Mov_simplify_17 rfl (by decide) rfl ?_
      refine zi_iload_n O d_Mov_simplify_18 rfl ?_
      refine zi_if_ge O 25 d_Mov_simplify_19 (by decide) (fun c19 => ?_) (fun c19 => ?_)
      · refine zi_iload_n O d_Mov_simplify_25 rfl ?_
        refine zi_aload_n O d_Mov_simplify_26 rfl ?_
        refine zi_get O f_Mov_12 d_Mov_simplify_27 rfl rfl ?_
        refine zi_iload_n O d_Mov_simplify_30 rfl ?_
        refine zi_blkV O 1 ([zo 0 [.ref 1, .ref 19]]) (diaH c1 n1 L1 S1 m1 P1 B1 F1 T1 A1 f1 O1 R1 Z1 p1 o1 C1' E1 Y1) ((diaH cj k L' T m' PL' LB' FR' TO' AT' F' OF' RD' ST' pc' co' OC' CE' SL').map (zc (fun q => q + 19))) rfl rfl c_Mov_104 k_Dia_undoAt (hun) d_Mov_simplify_31 ⟨(Nat.le_of_ble_eq_true rfl), (Nat.le_of_ble_eq_true rfl)⟩ ⟨(Nat.le_of_ble_eq_true rfl), (Nat.le_of_ble_eq_true rfl)⟩ rfl rfl (Nat.le_of_ble_eq_true rfl) rfl rfl rfl (Nat.le_of_ble_eq_true rfl) rfl rfl (fun r h' hq => ?_) rfl (fun r h' hq => ?_)
        · obtain ⟨c, n', lab', S', ci', -, -, -, -, -, el', fr', to', at', oc', z⟩ := hq
          obtain ⟨L, m, PL, LB, FR, TO, AT, F, OF, RD, ST, pc, co, OC, CE, SL, rfl⟩ := dr_form (dia_dr z)
          exact ⟨rfl, rfl⟩
        · obtain ⟨c, n', lab', S', ci', rfl, q1, q2, q3, q4, el', fr', to', at', oc', hz⟩ := hq
          refine zi_st (st' := [.int (nI c), .int (nI g)]) rfl (zi_h (h' := movH 1 19 h' (diaH cj k L' T m' PL' LB' FR' TO' AT' F' OF' RD' ST' pc' co' OC' CE' SL')) rfl ?_)
          first | refine zi_iaddN O d_Mov_simplify_34 ?_ | refine zi_iadd O d_Mov_simplify_34 ?_
          refine zi_istore_n (ls' := _ :: some _ :: _) O d_Mov_simplify_35 rfl (by decide) rfl ?_
          refine zi_iincN (ls' := _ :: _ :: some _ :: _) O 1 d_Mov_simplify_36 rfl (by decide) rfl (by decide) rfl ?_
          refine zi_goto O 4 d_Mov_simplify_39 (by decide) ?_
          refine zi_no 3 (ls' := _ :: _ :: _ :: none :: _) rfl ?_
          refine ih (i + 1, g + c, (n', lab', S', ci'), h') ⟨by dsimp only; omega, by dsimp only; omega, ⟨el', fr', to', at', oc', hz⟩, fun g1 n2 lab2 S2 ci2 hs => ?_⟩ (by dsimp only; omega)
          dsimp only at hs ⊢
          have := i3 (c + g1) n2 lab2 S2 ci2 (by
            rw [show 20 - i = (20 - (i + 1)) + 1 by omega]
            exact Or.inr ⟨c, n', lab', S', ci', g1, q4, rfl, hs⟩)
          rw [Nat.add_assoc]
          exact this
      · exact absurd (nI_pos' (by omega)) c19
set_option maxHeartbeats 2000000 in
theorem m_Mov_simplify_2 {hA hB : List zE} (hP0 : Dia n lab S ci el fr to_ at_ oc hA) (hR0 : Dr k plab T cj hB) : zMet y_Mov_simplify b_Mov_simplify 4 (some .int) ⟨6, 0, 0, 170⟩ [.ref 0] (movH 19 1 hB hA)
    (fun r h' => ∃ (g n' : Nat) (lab' : Nat → Nat) (S' : Nat → Int32) (ci' : Int32), r = some (.int (nI g)) ∧ Simp 20 n lab S ci g n' lab' S' ci' ∧ ∃ el' fr' to' at' oc' : Nat → Nat, Mv (Dia n' lab' S' ci' el' fr' to' at' oc') (Dr k plab T cj) h') := by
  have hn : n ≤ 20 := by
    obtain ⟨L, PL, LB, FR, TO, AT, OF, RD, ST, OC, CE, SL, rfl, hR, -⟩ := hP0
    exact hR.1
  have hD0 := dia_dr hP0
  have hRk := hR0
  obtain ⟨L, m, PL, LB, FR, TO, AT, F, OF, RD, ST, pc, co, OC, CE, SL, rfl⟩ := dr_form hD0
  obtain ⟨L', m', PL', LB', FR', TO', AT', F', OF', RD', ST', pc', co', OC', CE', SL', rfl⟩ := dr_form hR0
  refine zMet_of (plainFor_of_name (by decide +kernel)) rfl (Nat.le_of_ble_eq_true rfl) (fun z1 z2 z3 z4 z5 z6 z7 z8 z9 z10 z11 z12 z13 z14 O hin => ?_)
  refine zi_ls (ls' := [some (.ref 0), none, none, none]) rfl ?_
  refine zi_iconstN O 0 d_Mov_simplify_0 (by decide) ?_
  refine zi_istore_n (ls' := _ :: some _ :: _) O d_Mov_simplify_1 rfl (by decide) rfl ?_
  refine zi_iconstN O 0 d_Mov_simplify_2 (by decide) ?_
  refine zi_istore_n (ls' := _ :: _ :: some _ :: _) O d_Mov_simplify_3 rfl (by decide) rfl ?_
  refine zi_loop (σ := Nat × Nat × (Nat × (Nat → Nat) × (Nat → Int32) × Int32) × List zE) (fun x => [some (.ref 0), some (.int (nI x.2.1)), some (.int (nI x.1)), none]) (fun x => movH 19 1 (diaH cj k L' T m' PL' LB' FR' TO' AT' F' OF' RD' ST' pc' co' OC' CE' SL') x.2.2.2)
    (fun x => x.1 + x.2.2.1.1 ≤ n ∧ x.2.1 ≤ 2 * x.1 ∧ (∃ el fr to_ at_ oc : Nat → Nat, Dia x.2.2.1.1 x.2.2.1.2.1 x.2.2.1.2.2.1 x.2.2.1.2.2.2 el fr to_ at_ oc x.2.2.2) ∧ ∀ (g1 n' : Nat) (lab' : Nat → Nat) (S' : Nat → Int32) (ci' : Int32), Simp (20 - x.1) x.2.2.1.1 x.2.2.1.2.1 x.2.2.1.2.2.1 x.2.2.1.2.2.2 g1 n' lab' S' ci' → Simp 20 n lab S ci (x.2.1 + g1) n' lab' S' ci') (fun x => 20 - x.1) (0, 0, (n, lab, S, ci), diaH ci n L S m PL LB FR TO AT F OF RD ST pc co OC CE SL) rfl rfl ⟨by dsimp only; omega, by dsimp only; omega, ⟨el, fr, to_, at_, oc, hP0⟩, fun g1 n' lab' S' ci' hs => by dsimp only at hs ⊢; rw [Nat.zero_add]; exact hs⟩ ?_
  rintro ⟨i, g, ⟨n1, lab1, S1, c1⟩, hX⟩ ⟨i1, i2, ⟨el, fr, to_, at_, oc, hD⟩, i3⟩ ih
  dsimp only at i1 i2 hD i3 ih ⊢
  have hD1 := dia_dr hD
  have hturn := m_turn hD
  have hFF : (FF (nxD fr to_ at_) (4 * n1) (4 * n1)).2 ≤ 4 * n1 := by
    obtain ⟨L, PL, LB, FR, TO, AT, OF, RD, ST, OC, CE, SL, rfl, hR, hG, hz, hE, -⟩ := hD
    exact ff_le (by have := hR.1; omega) (perm_D hE) (Nat.le_refl (4 * n1))
  obtain ⟨L1, m1, P1, B1, F1, T1, A1, f1, O1, R1, Z1, p1, o1, C1', E1, Y1, rfl⟩ := dr_form hD1
  refine zi_iload_n O d_Mov_simplify_4 rfl ?_
  refine zi_bipushN O 20 d_Mov_simplify_5 (by decide) ?_
  refine zi_icmp_gtN O 42 d_Mov_simplify_7 (by decide) (by omega) (by omega) (fun c7 => ?_) (fun c7 => ?_)
  · omega
  · refine zi_aload_n O d_Mov_simplify_10 rfl ?_
    refine zi_get O f_Mov_12 d_Mov_simplify_11 rfl rfl ?_
    rcases hturn with ⟨hno, hfin⟩ | ⟨j, j1, j2, j3, hun⟩
    · refine zi_blkP O 19 (zo 0 [.ref 19, .ref 1] :: (diaH cj k L' T m' PL' LB' FR' TO' AT' F' OF' RD' ST' pc' co' OC' CE' SL').map (zc (fun q => q + 1))) (diaH c1 n1 L1 S1 m1 P1 B1 F1 T1 A1 f1 O1 R1 Z1 p1 o1 C1' E1 Y1) ([]) rfl rfl c_Mov_124 k_Dia_leastFaceToUndo (m_Dia_leastFaceToUndo_no hD hno) d_Mov_simplify_14 ⟨(Nat.le_of_ble_eq_true rfl), (Nat.le_of_ble_eq_true rfl)⟩ ⟨(Nat.le_of_ble_eq_true rfl), (Nat.le_of_ble_eq_true rfl)⟩ rfl rfl (Nat.le_of_ble_eq_true rfl) rfl rfl rfl (Nat.le_of_ble_eq_true rfl) rfl rfl rfl ?_
      refine zi_istore_n (ls' := _ :: _ :: _ :: some _ :: _) O d_Mov_simplify_17 rfl (by decide) rfl ?_
      refine zi_iload_n O d_Mov_simplify_18 rfl ?_
      refine zi_if_ge O 25 d_Mov_simplify_19 (by decide) (fun c19 => ?_) (fun c19 => ?_)
      · exact absurd c19 (by decide)
      · refine zi_goto O 42 d_Mov_simplify_22 (by decide) ?_
        refine zi_iload_n O d_Mov_simplify_42 rfl ?_
        refine zi_iret O d_Mov_simplify_43 (Nat.le_of_ble_eq_true rfl) (Nat.le_of_ble_eq_true rfl) (Nat.le_of_ble_eq_true rfl) ?_
        exact ⟨g, n1, lab1, S1, c1, rfl, i3 0 n1 lab1 S1 c1 (simp_fin hfin), el, fr, to_, at_, oc, Or.inr ⟨_, _, hRk, hD, rfl⟩⟩
    · refine zi_blkP O 19 (zo 0 [.ref 19, .ref 1] :: (diaH cj k L' T m' PL' LB' FR' TO' AT' F' OF' RD' ST' pc' co' OC' CE' SL').map (zc (fun q => q + 1))) (diaH c1 n1 L1 S1 m1 P1 B1 F1 T1 A1 f1 O1 R1 Z1 p1 o1 C1' E1 Y1) ([]) rfl rfl c_Mov_124 k_Dia_leastFaceToUndo (m_Dia_leastFaceToUndo hD j j1 j2 j3) d_Mov_simplify_14 ⟨(Nat.le_of_ble_eq_true rfl), (Nat.le_of_ble_eq_true rfl)⟩ ⟨(Nat.le_of_ble_eq_true rfl), (Nat.le_of_ble_eq_true rfl)⟩ rfl rfl (Nat.le_of_ble_eq_true rfl) rfl rfl rfl (Nat.le_of_ble_eq_true rfl) rfl rfl rfl ?_
      refine zi_istore_n (ls' := _ :: _ :: _ :: some _ :: _) O d_Mov_simplify_17 rfl (by decide) rfl ?_
      refine zi_iload_n O d_Mov_simplify_18 rfl ?_
      refine zi_if_ge O 25 d_Mov_simplify_19 (by decide) (fun c19 => ?_) (fun c19 => ?_)
      · refine zi_iload_n O d_Mov_simplify_25 rfl ?_
        refine zi_aload_n O d_Mov_simplify_26 rfl ?_
        refine zi_get O f_Mov_12 d_Mov_simplify_27 rfl rfl ?_
        refine zi_iload_n O d_Mov_simplify_30 rfl ?_
        refine zi_blkV O 19 (zo 0 [.ref 19, .ref 1] :: (diaH cj k L' T m' PL' LB' FR' TO' AT' F' OF' RD' ST' pc' co' OC' CE' SL').map (zc (fun q => q + 1))) (diaH c1 n1 L1 S1 m1 P1 B1 F1 T1 A1 f1 O1 R1 Z1 p1 o1 C1' E1 Y1) ([]) rfl rfl c_Mov_104 k_Dia_undoAt (hun) d_Mov_simplify_31 ⟨(Nat.le_of_ble_eq_true rfl), (Nat.le_of_ble_eq_true rfl)⟩ ⟨(Nat.le_of_ble_eq_true rfl), (Nat.le_of_ble_eq_true rfl)⟩ rfl rfl (Nat.le_of_ble_eq_true rfl) rfl rfl rfl (Nat.le_of_ble_eq_true rfl) rfl rfl (fun r h' hq => ?_) rfl (fun r h' hq => ?_)
        · obtain ⟨c, n', lab', S', ci', -, -, -, -, -, el', fr', to', at', oc', z⟩ := hq
          obtain ⟨L, m, PL, LB, FR, TO, AT, F, OF, RD, ST, pc, co, OC, CE, SL, rfl⟩ := dr_form (dia_dr z)
          exact ⟨rfl, rfl⟩
        · obtain ⟨c, n', lab', S', ci', rfl, q1, q2, q3, q4, el', fr', to', at', oc', hz⟩ := hq
          refine zi_st (st' := [.int (nI c), .int (nI g)]) rfl (zi_h (h' := movH 19 1 (diaH cj k L' T m' PL' LB' FR' TO' AT' F' OF' RD' ST' pc' co' OC' CE' SL') h') (by dsimp only [movH]; rw [List.append_nil]; rfl) ?_)
          first | refine zi_iaddN O d_Mov_simplify_34 ?_ | refine zi_iadd O d_Mov_simplify_34 ?_
          refine zi_istore_n (ls' := _ :: some _ :: _) O d_Mov_simplify_35 rfl (by decide) rfl ?_
          refine zi_iincN (ls' := _ :: _ :: some _ :: _) O 1 d_Mov_simplify_36 rfl (by decide) rfl (by decide) rfl ?_
          refine zi_goto O 4 d_Mov_simplify_39 (by decide) ?_
          refine zi_no 3 (ls' := _ :: _ :: _ :: none :: _) rfl ?_
          refine ih (i + 1, g + c, (n', lab', S', ci'), h') ⟨by dsimp only; omega, by dsimp only; omega, ⟨el', fr', to', at', oc', hz⟩, fun g1 n2 lab2 S2 ci2 hs => ?_⟩ (by dsimp only; omega)
          dsimp only at hs ⊢
          have := i3 (c + g1) n2 lab2 S2 ci2 (by
            rw [show 20 - i = (20 - (i + 1)) + 1 by omega]
            exact Or.inr ⟨c, n', lab', S', ci', g1, q4, rfl, hs⟩)
          rw [Nat.add_assoc]
          exact this
      · exact absurd (nI_pos' (by omega)) c19
end
