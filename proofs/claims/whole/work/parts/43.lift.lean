/-! Diagram.joinEdges, lift, undoAt -/
def mn (a b : Nat) : Nat := if b < a then b else a
def mx (a b : Nat) : Nat := if a < b then b else a
def jl (lab : Nat → Nat) (a b : Nat) : Nat → Nat := fun q => if lab q = mx (lab a) (lab b) then mn (lab a) (lab b) else lab q
def jc (lab : Nat → Nat) (a b : Nat) (ci : Int32) : Int32 := if lab a = lab b then ci + nI 1 else ci
theorem rowOK_jl {n : Nat} {L : Nat → Int32} {lab : Nat → Nat} (h : RowOK n L lab) {a b : Nat} (ha : a < 4 * n) (hb : b < 4 * n) : RowOK n (if jlo (L a) (L b) = jhi (L a) (L b) then L else jn L (jlo (L a) (L b)) (jhi (L a) (L b)) (4 * n)) (jl lab a b) ∧ (jlo (L a) (L b) = jhi (L a) (L b) ↔ lab a = lab b) := by
  obtain ⟨hn, hL⟩ := h
  obtain ⟨a1, a2, a3⟩ := hL a ha
  obtain ⟨b1, b2, b3⟩ := hL b hb
  have e1 : jlo (L a) (L b) = nI (mn (lab a) (lab b)) := by rw [a1, b1, jlo_N (by omega) (by omega)]; rfl
  have e2 : jhi (L a) (L b) = nI (mx (lab a) (lab b)) := by rw [a1, b1, jhi_N (by omega) (by omega)]; rfl
  have m1 : mn (lab a) (lab b) < 2 ^ 31 ∧ 1 ≤ mn (lab a) (lab b) ∧ mn (lab a) (lab b) ≤ 9999 := by unfold mn; split <;> omega
  have m2 : mx (lab a) (lab b) < 2 ^ 31 := by unfold mx; split <;> omega
  have e3 : mn (lab a) (lab b) = mx (lab a) (lab b) ↔ lab a = lab b := by unfold mn mx; split <;> split <;> omega
  rw [e1, e2]
  have e4 : (nI (mn (lab a) (lab b)) = nI (mx (lab a) (lab b))) ↔ lab a = lab b := (nI_eq m1.1 m2).trans e3
  refine ⟨⟨hn, fun q hq => ?_⟩, e4⟩
  obtain ⟨q1, q2, q3⟩ := hL q hq
  by_cases c : lab a = lab b
  · rw [if_pos (e4.mpr c)]
    have : jl lab a b q = lab q := by
      unfold jl
      split
      · rename_i z; rw [z]; exact e3.mpr c
      · rfl
    rw [this]
    exact ⟨q1, q2, q3⟩
  · rw [if_neg (fun z => c (e4.mp z))]
    unfold jn jl
    by_cases c2 : lab q = mx (lab a) (lab b)
    · rw [if_pos ⟨hq, by rw [q1, c2]⟩, if_pos c2]
      exact ⟨rfl, m1.2⟩
    · rw [if_neg (fun z => c2 ((nI_eq (by omega) m2).mp (by rw [← q1]; exact z.2))), if_neg c2]
      exact ⟨q1, q2, q3⟩
section
variable {n : Nat} {lab : Nat → Nat} {S : Nat → Int32} {ci : Int32} {el fr to_ at_ oc : Nat → Nat} {h : List zE}
theorem m_Dia_joinEdges (hD : Dr n lab S ci h) (a b : Nat) (ha : a < 4 * n) (hb : b < 4 * n) : zMet y_Dia_joinEdges b_Dia_joinEdges 3 none ⟨2, 0, 0, 50⟩ [.ref 0, .int (nI a), .int (nI b)] h (fun r h' => r = none ∧ Dr n (jl lab a b) S (jc lab a b ci) h') := by
  obtain ⟨L, m, PL, LB, FR, TO, AT, F, OF, RD, ST, pc, co, OC, CE, SL, rfl, hR, hG, hz⟩ := hD
  obtain ⟨hR', hiff⟩ := rowOK_jl hR ha hb
  have hn := hR.1
  refine zMet_of (plainFor_of_name (by decide +kernel)) rfl (Nat.le_of_ble_eq_true rfl) (fun z1 z2 z3 z4 z5 z6 z7 z8 z9 z10 z11 z12 z13 z14 O hin => ?_)
  refine zi_ls (ls' := [some (.ref 0), some (.int (nI a)), some (.int (nI b))]) rfl ?_
  refine zi_aload_n O d_Dia_joinEdges_0 rfl ?_
  refine zi_get O f_Dia_12 d_Dia_joinEdges_1 rfl rfl ?_
  refine zi_iload_n O d_Dia_joinEdges_4 rfl ?_
  refine zi_iload_n O d_Dia_joinEdges_5 rfl ?_
  refine zi_callV O [1, 2, 3] c_Dia_118 k_Row_joinLabels (m_Row_joinLabels n L S a b hn (by omega) (by omega)) d_Dia_joinEdges_6 ⟨(Nat.le_of_ble_eq_true rfl), (Nat.le_of_ble_eq_true rfl)⟩ ⟨(Nat.le_of_ble_eq_true rfl), (Nat.le_of_ble_eq_true rfl)⟩ rfl rfl (Nat.le_of_ble_eq_true rfl) rfl rfl rfl rfl rfl (Nat.le_of_ble_eq_true rfl) rfl (fun r h' hq hl => ?_)
  obtain ⟨rfl, rfl⟩ := hq
  refine zi_h (h' := diaH ci n (if jlo (L a) (L b) = jhi (L a) (L b) then L else jn L (jlo (L a) (L b)) (jhi (L a) (L b)) (4 * n)) S m PL LB FR TO AT F OF RD ST pc co OC CE SL) rfl ?_
  by_cases c : lab a = lab b
  · refine zi_st (st' := [.int (nI 0)]) (by rw [zb_f (fun z => z (hiff.mpr c))]; rfl) ?_
    refine zi_if_ne O 22 d_Dia_joinEdges_9 (by decide) (fun c9 => ?_) (fun c9 => ?_)
    · exact absurd rfl c9
    · refine zi_aload_n O d_Dia_joinEdges_12 rfl ?_
      refine zi_dup O d_Dia_joinEdges_13 rfl ?_
      refine zi_get O f_Dia_121 d_Dia_joinEdges_14 rfl rfl ?_
      refine zi_iconstN O 1 d_Dia_joinEdges_17 (by decide) ?_
      first | refine zi_iaddN O d_Dia_joinEdges_18 ?_ | refine zi_iadd O d_Dia_joinEdges_18 ?_
      refine zi_put O f_Dia_121 d_Dia_joinEdges_19 rfl (Nat.le_of_ble_eq_true rfl) (fun _ => rfl) (fun _ => rfl) (by dsimp only [List.set]) ?_
      refine zi_vret O d_Dia_joinEdges_22 (Nat.le_of_ble_eq_true rfl) (Nat.le_of_ble_eq_true rfl) (Nat.le_of_ble_eq_true rfl) ?_
      exact ⟨rfl, _, m, PL, LB, FR, TO, AT, F, OF, RD, ST, pc, co, OC, CE, SL, by rw [jc, if_pos c], hR', hG, hz⟩
  · refine zi_st (st' := [.int (nI 1)]) (by rw [zb_t (q := ¬ jlo (L a) (L b) = jhi (L a) (L b)) (fun z => c (hiff.mp z))]; rfl) ?_
    refine zi_if_ne O 22 d_Dia_joinEdges_9 (by decide) (fun c9 => ?_) (fun c9 => ?_)
    · refine zi_vret O d_Dia_joinEdges_22 (Nat.le_of_ble_eq_true rfl) (Nat.le_of_ble_eq_true rfl) (Nat.le_of_ble_eq_true rfl) ?_
      exact ⟨rfl, _, m, PL, LB, FR, TO, AT, F, OF, RD, ST, pc, co, OC, CE, SL, by rw [jc, if_neg c], hR', hG, hz⟩
    · exact absurd c9 (by decide)
/-- a crossing goes: labels, signs, circles -/
def rmL (lab : Nat → Nat) (c : Nat) : Nat → Nat := fun q => if q < 4 * c then lab q else lab (q + 4)
def rmS (S : Nat → Int32) (n c : Nat) : Nat → Int32 := va_cpy S S (c + 1) c (n - c - 1)
def uq (S : Nat → Int32) (c : Nat) : Nat := 4 * c + up S c
def lfL (lab : Nat → Nat) (S : Nat → Int32) (c : Nat) : Nat → Nat := rmL (jl (jl lab (4 * c) (4 * c + 2)) (uq S c) (ac (uq S c))) c
def lfC (lab : Nat → Nat) (S : Nat → Int32) (c : Nat) (ci : Int32) : Int32 := jc (jl lab (4 * c) (4 * c + 2)) (uq S c) (ac (uq S c)) (jc lab (4 * c) (4 * c + 2) ci)
theorem uq_lt (S : Nat → Int32) {n c : Nat} (hc : c < n) : uq S c < 4 * n := by have := up_le S c; unfold uq; omega
theorem sg_rm {n : Nat} {S : Nat → Int32} (h : Sg n S) {c : Nat} (hc : c < n) : Sg (n - 1) (rmS S n c) := by
  intro k hk
  unfold rmS va_cpy
  split
  · exact h _ (by omega)
  · exact h _ (by omega)
theorem rowOK_rm {n : Nat} {L : Nat → Int32} {lab : Nat → Nat} (h : RowOK n L lab) {c : Nat} (hc : c < n) : RowOK (n - 1) (va_cpy L L (4 * (c + 1)) (4 * c) (4 * (n - c - 1))) (rmL lab c) := by
  obtain ⟨hn, hL⟩ := h
  refine ⟨by omega, fun q hq => ?_⟩
  unfold va_cpy rmL
  by_cases c1 : q < 4 * c
  · rw [if_neg (by omega), if_pos c1]; exact hL q (by omega)
  · rw [if_pos (by omega), if_neg c1, show 4 * (c + 1) + (q - 4 * c) = q + 4 by omega]; exact hL (q + 4) (by omega)
set_option maxHeartbeats 1000000 in
theorem m_Dia_lift (hD : Dr n lab S ci h) (a : Nat) (ha : a < n) : zMet y_Dia_lift b_Dia_lift 3 none ⟨3, 0, 0, 90⟩ [.ref 0, .int (nI a)] h (fun r h' => r = none ∧ Dr (n - 1) (lfL lab S a) (rmS S n a) (lfC lab S a ci) h') := by
  have hD0 := hD
  have hu := uq_lt S ha
  have hu2 := ac_lt hu
  have hn : n ≤ 20 := by obtain ⟨L, m, PL, LB, FR, TO, AT, F, OF, RD, ST, pc, co, OC, CE, SL, rfl, hR, hG, hz⟩ := hD; exact hR.1
  obtain ⟨L, m, PL, LB, FR, TO, AT, F, OF, RD, ST, pc, co, OC, CE, SL, rfl, hR, hG, hz⟩ := hD
  refine zMet_of (plainFor_of_name (by decide +kernel)) rfl (Nat.le_of_ble_eq_true rfl) (fun z1 z2 z3 z4 z5 z6 z7 z8 z9 z10 z11 z12 z13 z14 O hin => ?_)
  refine zi_ls (ls' := [some (.ref 0), some (.int (nI a)), none]) rfl ?_
  refine zi_aload_n O d_Dia_lift_0 rfl ?_
  refine zi_get O f_Dia_12 d_Dia_lift_1 rfl rfl ?_
  refine zi_iload_n O d_Dia_lift_4 rfl ?_
  refine zi_pureV O [1, 2, 3] c_Dia_108 k_Row_upperIn (m_Row_upperIn n L S a (by omega)) d_Dia_lift_5 ⟨(Nat.le_of_ble_eq_true rfl), (Nat.le_of_ble_eq_true rfl)⟩ ⟨(Nat.le_of_ble_eq_true rfl), (Nat.le_of_ble_eq_true rfl)⟩ rfl rfl (Nat.le_of_ble_eq_true rfl) rfl rfl rfl rfl rfl (Nat.le_of_ble_eq_true rfl) rfl ?_
  refine zi_st (st' := [.int (nI (uq S a))]) rfl ?_
  refine zi_istore_n (ls' := _ :: _ :: some _ :: _) O d_Dia_lift_8 rfl (by decide) rfl ?_
  refine zi_aload_n O d_Dia_lift_9 rfl ?_
  refine zi_iconstN O 4 d_Dia_lift_10 (by decide) ?_
  refine zi_iload_n O d_Dia_lift_11 rfl ?_
  first | refine zi_imulN O d_Dia_lift_12 ?_ | refine zi_imul O d_Dia_lift_12 ?_
  refine zi_iconstN O 4 d_Dia_lift_13 (by decide) ?_
  refine zi_iload_n O d_Dia_lift_14 rfl ?_
  first | refine zi_imulN O d_Dia_lift_15 ?_ | refine zi_imul O d_Dia_lift_15 ?_
  refine zi_iconstN O 2 d_Dia_lift_16 (by decide) ?_
  first | refine zi_iaddN O d_Dia_lift_17 ?_ | refine zi_iadd O d_Dia_lift_17 ?_
  refine zi_selfV O c_Dia_111 k_Dia_joinEdges (m_Dia_joinEdges hD0 (4 * a) (4 * a + 2) (by omega) (by omega)) d_Dia_lift_18 ⟨(Nat.le_of_ble_eq_true rfl), (Nat.le_of_ble_eq_true rfl)⟩ ⟨(Nat.le_of_ble_eq_true rfl), (Nat.le_of_ble_eq_true rfl)⟩ rfl rfl (Nat.le_of_ble_eq_true rfl) rfl rfl rfl (Nat.le_of_ble_eq_true rfl) rfl (fun r h' hq hl => ?_)
  obtain ⟨rfl, hD1⟩ := hq
  have hD1' := hD1
  obtain ⟨L, m, PL, LB, FR, TO, AT, F, OF, RD, ST, pc, co, OC, CE, SL, rfl, hR, hG, hz⟩ := hD1
  refine zi_st (st' := []) rfl ?_
  refine zi_aload_n O d_Dia_lift_21 rfl ?_
  refine zi_iload_n O d_Dia_lift_22 rfl ?_
  refine zi_iload_n O d_Dia_lift_23 rfl ?_
  refine zi_iconstN O 2 d_Dia_lift_24 (by decide) ?_
  refine zi_ixor O d_Dia_lift_25 ?_
  refine zi_st (st' := [.int (nI (ac (uq S a))), .int (nI (uq S a)), .ref 0]) (by rw [xor2 _ (by omega)]) ?_
  refine zi_selfV O c_Dia_111 k_Dia_joinEdges (m_Dia_joinEdges hD1' (uq S a) (ac (uq S a)) hu hu2) d_Dia_lift_26 ⟨(Nat.le_of_ble_eq_true rfl), (Nat.le_of_ble_eq_true rfl)⟩ ⟨(Nat.le_of_ble_eq_true rfl), (Nat.le_of_ble_eq_true rfl)⟩ rfl rfl (Nat.le_of_ble_eq_true rfl) rfl rfl rfl (Nat.le_of_ble_eq_true rfl) rfl (fun r h' hq hl => ?_)
  obtain ⟨rfl, hD2⟩ := hq
  obtain ⟨L, m, PL, LB, FR, TO, AT, F, OF, RD, ST, pc, co, OC, CE, SL, rfl, hR, hG, hz⟩ := hD2
  refine zi_st (st' := []) rfl ?_
  refine zi_aload_n O d_Dia_lift_29 rfl ?_
  refine zi_get O f_Dia_12 d_Dia_lift_30 rfl rfl ?_
  refine zi_iload_n O d_Dia_lift_33 rfl ?_
  refine zi_callV O [1, 2, 3] c_Dia_115 k_Row_remove (m_Row_remove n L S a hn ha) d_Dia_lift_34 ⟨(Nat.le_of_ble_eq_true rfl), (Nat.le_of_ble_eq_true rfl)⟩ ⟨(Nat.le_of_ble_eq_true rfl), (Nat.le_of_ble_eq_true rfl)⟩ rfl rfl (Nat.le_of_ble_eq_true rfl) rfl rfl rfl rfl rfl (Nat.le_of_ble_eq_true rfl) rfl (fun r h' hq hl => ?_)
  obtain ⟨rfl, rfl⟩ := hq
  refine zi_st (st' := []) rfl (zi_h (h' := diaH (lfC lab S a ci) (n - 1) (va_cpy L L (4 * (a + 1)) (4 * a) (4 * (n - a - 1))) (rmS S n a) m PL LB FR TO AT F OF RD ST pc co OC CE SL) rfl ?_)
  refine zi_vret O d_Dia_lift_37 (Nat.le_of_ble_eq_true rfl) (Nat.le_of_ble_eq_true rfl) (Nat.le_of_ble_eq_true rfl) ?_
  exact ⟨rfl, _, m, PL, LB, FR, TO, AT, F, OF, RD, ST, pc, co, OC, CE, SL, rfl, rowOK_rm hR ha, sg_rm hG ha, hz⟩
/-- behind chart -/
def ChQ (n : Nat) (lab : Nat → Nat) (S : Nat → Int32) (ci : Int32) (h : List zE) : Prop := (¬ (C1 n lab ∧ C2 n lab S) ∧ Dr n lab S ci h) ∨ (C1 n lab ∧ C2 n lab S ∧ ∃ el fr to_ at_ oc : Nat → Nat, Dia n lab S ci el fr to_ at_ oc h)
theorem dia_dr (hD : Dia n lab S ci el fr to_ at_ oc h) : Dr n lab S ci h := by
  obtain ⟨L, PL, LB, FR, TO, AT, OF, RD, ST, OC, CE, SL, rfl, hR, hG, hz, hE, hA, hRd, hO, hP, hOF⟩ := hD
  exact ⟨L, _, PL, LB, FR, TO, AT, _, OF, RD, ST, _, _, OC, CE, SL, rfl, hR, hG, hz⟩
theorem m_Dia_chart2 (hD : Dr n lab S ci h) : zMet y_Dia_chart b_Dia_chart 2 (some .int) ⟨4, 0, 0, 110⟩ [.ref 0] h (fun r h' => (∃ x, r = some (.int x)) ∧ ChQ n lab S ci h') := by
  refine (m_Dia_chart hD).mono (fun r h' hq => ?_)
  rcases hq with ⟨rfl, k1, k2⟩ | ⟨rfl, k1, k2, k3⟩ | ⟨k1, k2, el, fr, to_, at_, oc, k3, rfl⟩
  · exact ⟨⟨_, rfl⟩, Or.inl ⟨fun z => k1 z.1, k2⟩⟩
  · exact ⟨⟨_, rfl⟩, Or.inl ⟨fun z => k2 z.2, k3⟩⟩
  · exact ⟨⟨_, rfl⟩, Or.inr ⟨k1, k2, el, fr, to_, at_, oc, k3⟩⟩
theorem m_Dia_undoAt_no (hD : Dia n lab S ci el fr to_ at_ oc h) (k l t : Nat) (hk : k < (FF (nxD fr to_ at_) (4 * n) (4 * n)).2) (hF : FaceK n (nxD fr to_ at_) k l t) (hp : ¬ (pat fr to_ (nxD fr to_ at_) l t = 1 ∨ pat fr to_ (nxD fr to_ at_) l t = 2)) : zPu y_Dia_undoAt b_Dia_undoAt 5 (some .int) ⟨5, 0, 0, 140⟩ [.ref 0, .int (nI k)] h (.int (nI 0)) := by
  have hD' := hD
  obtain ⟨L, PL, LB, FR, TO, AT, OF, RD, ST, OC, CE, SL, rfl, hR, hG, hz, hE, hA, hRd, hO, hP, hOF⟩ := hD
  have hpl := pat_le (fr := fr) (to_ := to_) (nxD fr to_ at_) l t
  refine zMet_of (plainFor_of_name (by decide +kernel)) rfl (Nat.le_of_ble_eq_true rfl) (fun z1 z2 z3 z4 z5 z6 z7 z8 z9 z10 z11 z12 z13 z14 O hin => ?_)
  refine zi_ls (ls' := [some (.ref 0), some (.int (nI k)), none, none, none]) rfl ?_
  refine zi_aload_n O d_Dia_undoAt_0 rfl ?_
  refine zi_iload_n O d_Dia_undoAt_1 rfl ?_
  refine zi_selfP O c_Dia_89 k_Dia_patternAt (m_Dia_patternAt hD' k l t hk hF) d_Dia_undoAt_2 ⟨(Nat.le_of_ble_eq_true rfl), (Nat.le_of_ble_eq_true rfl)⟩ ⟨(Nat.le_of_ble_eq_true rfl), (Nat.le_of_ble_eq_true rfl)⟩ rfl rfl (Nat.le_of_ble_eq_true rfl) rfl rfl rfl (Nat.le_of_ble_eq_true rfl) rfl ?_
  refine zi_istore_n (ls' := _ :: _ :: some _ :: _) O d_Dia_undoAt_5 rfl (by decide) rfl ?_
  refine zi_iload_n O d_Dia_undoAt_6 rfl ?_
  refine zi_iconstN O 1 d_Dia_undoAt_7 (by decide) ?_
  refine zi_icmp_eqN O 18 d_Dia_undoAt_8 (by decide) (by omega) (by omega) (fun c8 => ?_) (fun c8 => ?_)
  · omega
  · refine zi_iload_n O d_Dia_undoAt_11 rfl ?_
    refine zi_iconstN O 2 d_Dia_undoAt_12 (by decide) ?_
    refine zi_icmp_eqN O 18 d_Dia_undoAt_13 (by decide) (by omega) (by omega) (fun c13 => ?_) (fun c13 => ?_)
    · omega
    · refine zi_iconstN O 0 d_Dia_undoAt_16 (by decide) ?_
      refine zi_iret O d_Dia_undoAt_17 (Nat.le_of_ble_eq_true rfl) (Nat.le_of_ble_eq_true rfl) (Nat.le_of_ble_eq_true rfl) ?_
      exact ⟨rfl, rfl⟩
theorem m_Dia_undoAt_1 (hD : Dia n lab S ci el fr to_ at_ oc h) (k l t : Nat) (hk : k < (FF (nxD fr to_ at_) (4 * n) (4 * n)).2) (hF : FaceK n (nxD fr to_ at_) k l t) (hp : pat fr to_ (nxD fr to_ at_) l t = 1) : zMet y_Dia_undoAt b_Dia_undoAt 5 (some .int) ⟨5, 0, 0, 140⟩ [.ref 0, .int (nI k)] h (fun r h' => r = some (.int (nI 1)) ∧ ChQ (n - 1) (lfL lab S (ca fr to_ l)) (rmS S n (ca fr to_ l)) (lfC lab S (ca fr to_ l) ci) h') := by
  have hD' := hD
  obtain ⟨L, PL, LB, FR, TO, AT, OF, RD, ST, OC, CE, SL, rfl, hR, hG, hz, hE, hA, hRd, hO, hP, hOF⟩ := hD
  have hn := hR.1
  have hFF := ff_le (by omega) (perm_D hE) (Nat.le_refl (4 * n))
  obtain ⟨l', t', a, hF', ha, hs1, hs2, hr⟩ := rd_face hRd hk
  obtain ⟨rfl, rfl⟩ := faceK_uniq hF hF'
  have ht := hF.2.1
  have hl := hF.1
  have hca : ca fr to_ l' < n := by have := ar_lt hE hl; unfold ca; omega
  refine zMet_of (plainFor_of_name (by decide +kernel)) rfl (Nat.le_of_ble_eq_true rfl) (fun z1 z2 z3 z4 z5 z6 z7 z8 z9 z10 z11 z12 z13 z14 O hin => ?_)
  refine zi_ls (ls' := [some (.ref 0), some (.int (nI k)), none, none, none]) rfl ?_
  refine zi_aload_n O d_Dia_undoAt_0 rfl ?_
  refine zi_iload_n O d_Dia_undoAt_1 rfl ?_
  refine zi_selfP O c_Dia_89 k_Dia_patternAt (m_Dia_patternAt hD' k l' t' hk hF) d_Dia_undoAt_2 ⟨(Nat.le_of_ble_eq_true rfl), (Nat.le_of_ble_eq_true rfl)⟩ ⟨(Nat.le_of_ble_eq_true rfl), (Nat.le_of_ble_eq_true rfl)⟩ rfl rfl (Nat.le_of_ble_eq_true rfl) rfl rfl rfl (Nat.le_of_ble_eq_true rfl) rfl ?_
  rw [hp]
  refine zi_istore_n (ls' := _ :: _ :: some _ :: _) O d_Dia_undoAt_5 rfl (by decide) rfl ?_
  refine zi_iload_n O d_Dia_undoAt_6 rfl ?_
  refine zi_iconstN O 1 d_Dia_undoAt_7 (by decide) ?_
  refine zi_icmp_eqN O 18 d_Dia_undoAt_8 (by decide) (by omega) (by omega) (fun c8 => ?_) (fun c8 => ?_)
  · refine zi_aload_n O d_Dia_undoAt_18 rfl ?_
    refine zi_aload_n O d_Dia_undoAt_19 rfl ?_
    refine zi_get O f_Dia_28 d_Dia_undoAt_20 rfl rfl ?_
    refine zi_iload_n O d_Dia_undoAt_23 rfl ?_
    refine zi_iconstN O 0 d_Dia_undoAt_24 (by decide) ?_
    refine zi_pureV O [10, 11, 12, 13] c_Dia_63 k_Fac_dart (m_Fac_dart (FF (nxD fr to_ at_) (4 * n) (4 * n)).2 OF RD ST k 0 a l' (by omega) hs1 (by omega) (hr 0 (by omega))) d_Dia_undoAt_25 ⟨(Nat.le_of_ble_eq_true rfl), (Nat.le_of_ble_eq_true rfl)⟩ ⟨(Nat.le_of_ble_eq_true rfl), (Nat.le_of_ble_eq_true rfl)⟩ rfl rfl (Nat.le_of_ble_eq_true rfl) rfl rfl rfl rfl rfl (Nat.le_of_ble_eq_true rfl) rfl ?_
    refine zi_selfP O c_Dia_78 k_Dia_crossingAhead (m_Dia_crossingAhead hD' l' hl) d_Dia_undoAt_28 ⟨(Nat.le_of_ble_eq_true rfl), (Nat.le_of_ble_eq_true rfl)⟩ ⟨(Nat.le_of_ble_eq_true rfl), (Nat.le_of_ble_eq_true rfl)⟩ rfl rfl (Nat.le_of_ble_eq_true rfl) rfl rfl rfl (Nat.le_of_ble_eq_true rfl) rfl ?_
    refine zi_istore_n (ls' := _ :: _ :: _ :: some _ :: _) O d_Dia_undoAt_31 rfl (by decide) rfl ?_
    refine zi_iload_n O d_Dia_undoAt_32 rfl ?_
    refine zi_iconstN O 1 d_Dia_undoAt_33 (by decide) ?_
    refine zi_icmp_neN O 45 d_Dia_undoAt_34 (by decide) (by omega) (by omega) (fun c34 => ?_) (fun c34 => ?_)
    · omega
    · refine zi_aload_n O d_Dia_undoAt_37 rfl ?_
      refine zi_iload_n O d_Dia_undoAt_38 rfl ?_
      refine zi_selfV O c_Dia_92 k_Dia_lift (m_Dia_lift (dia_dr hD') (ca fr to_ l') hca) d_Dia_undoAt_39 ⟨(Nat.le_of_ble_eq_true rfl), (Nat.le_of_ble_eq_true rfl)⟩ ⟨(Nat.le_of_ble_eq_true rfl), (Nat.le_of_ble_eq_true rfl)⟩ rfl rfl (Nat.le_of_ble_eq_true rfl) rfl rfl rfl (Nat.le_of_ble_eq_true rfl) rfl (fun r h' hq hl => ?_)
      obtain ⟨rfl, hD1⟩ := hq
      have hD1' := hD1
      obtain ⟨L, m, PL, LB, FR, TO, AT, F, OF, RD, ST, pc, co, OC, CE, SL, rfl, hR, hG, hz⟩ := hD1
      refine zi_st (st' := []) rfl ?_
      refine zi_goto O 82 d_Dia_undoAt_42 (by decide) ?_
      refine zi_aload_n O d_Dia_undoAt_82 rfl ?_
      refine zi_selfV O c_Dia_104 k_Dia_chart (m_Dia_chart2 hD1') d_Dia_undoAt_83 ⟨(Nat.le_of_ble_eq_true rfl), (Nat.le_of_ble_eq_true rfl)⟩ ⟨(Nat.le_of_ble_eq_true rfl), (Nat.le_of_ble_eq_true rfl)⟩ rfl rfl (Nat.le_of_ble_eq_true rfl) rfl rfl rfl (Nat.le_of_ble_eq_true rfl) rfl (fun r h' hq hl => ?_)
      obtain ⟨⟨x, rfl⟩, hC⟩ := hq
      have hx : ∃ (m : Nat) (PL LB FR TO AT : Nat → Int32) (F : Nat) (OF RD ST : Nat → Int32) (pc co : Nat) (OC CE SL L : Nat → Int32), h' = diaH (lfC lab S (ca fr to_ l') ci) (n - 1) L (rmS S n (ca fr to_ l')) m PL LB FR TO AT F OF RD ST pc co OC CE SL := by
        rcases hC with ⟨-, z⟩ | ⟨-, -, _, _, _, _, _, z⟩
        · obtain ⟨L, m, PL, LB, FR, TO, AT, F, OF, RD, ST, pc, co, OC, CE, SL, rfl, -⟩ := z; exact ⟨m, PL, LB, FR, TO, AT, F, OF, RD, ST, pc, co, OC, CE, SL, L, rfl⟩
        · obtain ⟨L, m, PL, LB, FR, TO, AT, F, OF, RD, ST, pc, co, OC, CE, SL, rfl, -⟩ := dia_dr z; exact ⟨m, PL, LB, FR, TO, AT, F, OF, RD, ST, pc, co, OC, CE, SL, L, rfl⟩
      obtain ⟨m, PL, LB, FR, TO, AT, F, OF, RD, ST, pc, co, OC, CE, SL, L, rfl⟩ := hx
      refine zi_st (st' := [.int x]) rfl ?_
      refine zi_pop O d_Dia_undoAt_86 rfl ?_
      refine zi_iload_n O d_Dia_undoAt_87 rfl ?_
      refine zi_iret O d_Dia_undoAt_88 (Nat.le_of_ble_eq_true rfl) (Nat.le_of_ble_eq_true rfl) (Nat.le_of_ble_eq_true rfl) ?_
      exact ⟨rfl, hC⟩
  · omega
end
