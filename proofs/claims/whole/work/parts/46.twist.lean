/-! addKink, twistCircle, twistEdge, canMeet -/
def bI (b : Bool) : Int32 := if b then nI 1 else nI 0
def ifS (sg : Int32) (a b : Nat) : Nat := if sg = nI 1 then a else b
def ad4 (lab : Nat → Nat) (n l0 l1 l2 l3 : Nat) : Nat → Nat := va_up (va_up (va_up (va_up lab (4 * n) l0) (4 * n + 1) l1) (4 * n + 2) l2) (4 * n + 3) l3
/-- one crossing more: by its sign, which pass the upper strand's and the lower strand's is, and the parts of both -/
def cr (lab : Nat → Nat) (n : Nat) (sg : Int32) (pu pl : Bool) (u1 u2 u3 l1 l2 l3 : Nat) : Nat → Nat := ad4 lab n (if pl then l1 else l2) (ifS sg (if pu then u2 else u3) (if pu then u1 else u2)) (if pl then l2 else l3) (ifS sg (if pu then u1 else u2) (if pu then u2 else u3))
theorem rowOK_ad {n : Nat} {L : Nat → Int32} {lab : Nat → Nat} (h : RowOK n L lab) (hn : n < 20) {l0 l1 l2 l3 : Nat} (h0 : 1 ≤ l0 ∧ l0 ≤ 9999) (h1 : 1 ≤ l1 ∧ l1 ≤ 9999) (h2 : 1 ≤ l2 ∧ l2 ≤ 9999) (h3 : 1 ≤ l3 ∧ l3 ≤ 9999) : RowOK (n + 1) (up4 L n (nI l0) (nI l1) (nI l2) (nI l3)) (ad4 lab n l0 l1 l2 l3) := by
  refine ⟨by omega, fun q hq => ?_⟩
  unfold up4 ad4 upd va_up
  by_cases c3 : q = 4 * n + 3
  · rw [if_pos c3, if_pos c3]; exact ⟨rfl, h3⟩
  · rw [if_neg c3, if_neg c3]
    by_cases c2 : q = 4 * n + 2
    · rw [if_pos c2, if_pos c2]; exact ⟨rfl, h2⟩
    · rw [if_neg c2, if_neg c2]
      by_cases c1 : q = 4 * n + 1
      · rw [if_pos c1, if_pos c1]; exact ⟨rfl, h1⟩
      · rw [if_neg c1, if_neg c1]
        by_cases c0 : q = 4 * n
        · rw [if_pos c0, if_pos c0]; exact ⟨rfl, h0⟩
        · rw [if_neg c0, if_neg c0]; exact h.2 q (by omega)
theorem if0_b (b : Bool) (x y : Nat) : if0 (bI b) (nI x) (nI y) = nI (if b then y else x) := by
  cases b
  · rfl
  · show (if nI 1 = 0 then _ else _) = _
    rw [if_neg (by decide)]; rfl
theorem if1_n (sg : Int32) (x y : Nat) : if1 sg (nI x) (nI y) = nI (ifS sg x y) := by
  unfold if1 ifS
  split <;> rfl
theorem rowOK_cr {n : Nat} {L : Nat → Int32} {lab : Nat → Nat} (h : RowOK n L lab) (hn : n < 20) (sg : Int32) (pu pl : Bool) {u1 u2 u3 l1 l2 l3 : Nat} (hu1 : 1 ≤ u1 ∧ u1 ≤ 9999) (hu2 : 1 ≤ u2 ∧ u2 ≤ 9999) (hu3 : 1 ≤ u3 ∧ u3 ≤ 9999) (hl1 : 1 ≤ l1 ∧ l1 ≤ 9999) (hl2 : 1 ≤ l2 ∧ l2 ≤ 9999) (hl3 : 1 ≤ l3 ∧ l3 ≤ 9999) :
    RowOK (n + 1) (up4 L n (if0 (bI pl) (nI l2) (nI l1)) (if1 sg (if0 (bI pu) (nI u3) (nI u2)) (if0 (bI pu) (nI u2) (nI u1))) (if0 (bI pl) (nI l3) (nI l2)) (if1 sg (if0 (bI pu) (nI u2) (nI u1)) (if0 (bI pu) (nI u3) (nI u2)))) (cr lab n sg pu pl u1 u2 u3 l1 l2 l3) := by
  rw [if0_b, if0_b, if0_b, if0_b, if1_n, if1_n]
  refine rowOK_ad h hn ?_ ?_ ?_ ?_
  · split <;> assumption
  · unfold ifS; split <;> split <;> assumption
  · split <;> assumption
  · unfold ifS; split <;> split <;> assumption
theorem sg_add {n : Nat} {S : Nat → Int32} (h : Sg n S) {sg : Int32} (hs : sg = nI 1 ∨ sg = -1) : Sg (n + 1) (upd S n sg) := by
  intro c hc
  by_cases e : c = n
  · rw [e, pk_us]; exact hs
  · rw [pk_un e]; exact h c (by omega)
/-- the free labels, by the edges' labels -/
def fN (el : Nat → Nat) (a : Nat) : Nat → Nat
  | 0 => a + 1
  | i + 1 => if el i = fN el a i then fN el a i + 1 else fN el a i
theorem fN_le (el : Nat → Nat) (a : Nat) : ∀ i, a + 1 ≤ fN el a i ∧ fN el a i ≤ a + 1 + i
  | 0 => ⟨Nat.le_refl _, Nat.le_refl _⟩
  | i + 1 => by
    have := fN_le el a i
    rw [fN]
    split <;> omega
theorem fa_fN {LB : Nat → Int32} {el : Nat → Nat} {m a : Nat} (h : ∀ e, e < m → LB e = nI (el e) ∧ el e < 2 ^ 31) (hm : m ≤ 100) (ha : a < 2 ^ 30) : ∀ i, i ≤ m → fa LB a i = fN el a i
  | 0, _ => rfl
  | i + 1, hi => by
    have h1 := fa_fN h hm ha i (by omega)
    have h2 := fN_le el a i
    rw [fa, fN, h1, (h i (by omega)).1]
    have : nI (el i) = nI (fN el a i) ↔ el i = fN el a i := nI_eq (h i (by omega)).2 (by omega)
    simp only [this]
section
variable {n : Nat} {lab : Nat → Nat} {S : Nat → Int32} {ci : Int32} {el fr to_ at_ oc : Nat → Nat} {h : List zE}
theorem el_ok {L : Nat → Int32} (hR : RowOK n L lab) (hE : Ed n lab S el fr to_ at_) {e : Nat} (he : e < 2 * n) : 1 ≤ el e ∧ el e ≤ 9999 := by
  obtain ⟨b1, b2, b3, b4, b5, b6⟩ := hE.1 e he
  have := (hR.2 _ b1).2
  rw [b3] at this
  exact this
theorem fa_el {L LB FR TO AT : Nat → Int32} (hR : RowOK n L lab) (hE : Ed n lab S el fr to_ at_) (hA : EdA n el fr to_ at_ LB FR TO AT) {a : Nat} (ha : a < 2 ^ 30) : fa LB a (2 * n) = fN el a (2 * n) := by
  have := hR.1
  exact fa_fN (fun e he => ⟨(hA.1 e he).1, by have := el_ok hR hE he; omega⟩) (by omega) ha _ (Nat.le_refl _)
set_option maxHeartbeats 1000000 in
theorem m_Dia_addKink_0 {L PL LB FR TO AT OF RD ST OC CE SL : Nat → Int32} {m F pc co : Nat} (hR : RowOK n L lab) (hG : Sg n S) (hz : ST 0 = nI 0) (hn : n < 20) (sg : Int32) (hs : sg = nI 1 ∨ sg = -1) (f u v : Nat) (hf : 1 ≤ f ∧ f ≤ 9999) (hu : 1 ≤ u ∧ u ≤ 9999) (hv : 1 ≤ v ∧ v ≤ 9999) : zMet y_Dia_addKink b_Dia_addKink 4 none ⟨5, 0, 0, 140⟩ [.ref 0, .ref 18, .int sg, .int (bI false)] (diaH ci n L S m PL LB FR TO AT F OF RD ST pc co OC CE SL ++ [cutC (nI f) (nI u) (nI v)])
    (fun r h' => r = none ∧ ∃ h1, h' = h1 ++ [cutC (nI f) (nI u) (nI v)] ∧ ChQ (n + 1) (cr lab n sg false (!false) f u v f u v) (upd S n sg) ci h1) := by
  refine zMet_of (plainFor_of_name (by decide +kernel)) rfl (Nat.le_of_ble_eq_true rfl) (fun z1 z2 z3 z4 z5 z6 z7 z8 z9 z10 z11 z12 z13 z14 O hin => ?_)
  refine zi_ls (ls' := [some (.ref 0), some (.ref 18), some (.int sg), some (.int (bI false))]) rfl ?_
  refine zi_aload_n O d_Dia_addKink_0 rfl ?_
  refine zi_iload_n O d_Dia_addKink_1 rfl ?_
  refine zi_aload_n O d_Dia_addKink_2 rfl ?_
  refine zi_iload_n O d_Dia_addKink_3 rfl ?_
  refine zi_aload_n O d_Dia_addKink_4 rfl ?_
  refine zi_iload_n O d_Dia_addKink_5 rfl ?_
  refine zi_if_ne O 13 d_Dia_addKink_6 (by decide) (fun c6 => ?_) (fun c6 => ?_)
  · exact absurd rfl c6
  · refine zi_iconstN O 1 d_Dia_addKink_9 (by decide) ?_
    refine zi_goto O 14 d_Dia_addKink_10 (by decide) ?_
    refine zi_selfV O c_Dia_162 k_Dia_addCrossing (m_Dia_addCrossing_0 hn sg (bI false) (bI (!false)) (nI f) (nI u) (nI v) (nI f) (nI u) (nI v)) d_Dia_addKink_14 ⟨(Nat.le_of_ble_eq_true rfl), (Nat.le_of_ble_eq_true rfl)⟩ ⟨(Nat.le_of_ble_eq_true rfl), (Nat.le_of_ble_eq_true rfl)⟩ rfl rfl (Nat.le_of_ble_eq_true rfl) rfl rfl rfl (Nat.le_of_ble_eq_true rfl) rfl (fun r h' hq hl => ?_)
    obtain ⟨rfl, rfl⟩ := hq
    refine zi_st (st' := []) rfl ?_
    refine zi_aload_n O d_Dia_addKink_17 rfl ?_
    refine zi_preV O (diaH ci (n + 1) (up4 L n (if0 (bI (!false)) (nI u) (nI f)) (if1 sg (if0 (bI false) (nI v) (nI u)) (if0 (bI false) (nI u) (nI f))) (if0 (bI (!false)) (nI v) (nI u)) (if1 sg (if0 (bI false) (nI u) (nI f)) (if0 (bI false) (nI v) (nI u)))) (upd S n sg) m PL LB FR TO AT F OF RD ST pc co OC CE SL) [cutC (nI f) (nI u) (nI v)] rfl c_Dia_104 k_Dia_chart (m_Dia_chart2 (n := n + 1) (lab := cr lab n sg false (!false) f u v f u v) (S := upd S n sg) (ci := ci) ⟨_, _, _, _, _, _, _, _, _, _, _, _, _, _, _, _, rfl, rowOK_cr hR hn sg false (!false) hf hu hv hf hu hv, sg_add hG hs, hz⟩) d_Dia_addKink_18 ⟨(Nat.le_of_ble_eq_true rfl), (Nat.le_of_ble_eq_true rfl)⟩ ⟨(Nat.le_of_ble_eq_true rfl), (Nat.le_of_ble_eq_true rfl)⟩ rfl rfl (Nat.le_of_ble_eq_true rfl) rfl rfl rfl (Nat.le_of_ble_eq_true rfl) rfl rfl (fun r h' hq => ?_) rfl (fun r h' hq hl => ?_)
    · obtain ⟨L, m, PL, LB, FR, TO, AT, F, OF, RD, ST, pc, co, OC, CE, SL, rfl⟩ := dr_form (chq_dr hq.2)
      exact ⟨rfl, rfl⟩
    · obtain ⟨⟨x, rfl⟩, hC⟩ := hq
      obtain ⟨L, m, PL, LB, FR, TO, AT, F, OF, RD, ST, pc, co, OC, CE, SL, rfl⟩ := dr_form (chq_dr hC)
      refine zi_st (st' := [.int x]) rfl (zi_h (h' := diaH ci (n + 1) L (upd S n sg) m PL LB FR TO AT F OF RD ST pc co OC CE SL ++ [cutC (nI f) (nI u) (nI v)]) rfl ?_)
      refine zi_pop O d_Dia_addKink_21 rfl ?_
      refine zi_vret O d_Dia_addKink_22 (Nat.le_of_ble_eq_true rfl) (Nat.le_of_ble_eq_true rfl) (Nat.le_of_ble_eq_true rfl) ?_
      exact ⟨rfl, _, rfl, hC⟩
set_option maxHeartbeats 1000000 in
theorem m_Dia_addKink_1 {L PL LB FR TO AT OF RD ST OC CE SL : Nat → Int32} {m F pc co : Nat} (hR : RowOK n L lab) (hG : Sg n S) (hz : ST 0 = nI 0) (hn : n < 20) (sg : Int32) (hs : sg = nI 1 ∨ sg = -1) (f u v : Nat) (hf : 1 ≤ f ∧ f ≤ 9999) (hu : 1 ≤ u ∧ u ≤ 9999) (hv : 1 ≤ v ∧ v ≤ 9999) : zMet y_Dia_addKink b_Dia_addKink 4 none ⟨5, 0, 0, 140⟩ [.ref 0, .ref 18, .int sg, .int (bI true)] (diaH ci n L S m PL LB FR TO AT F OF RD ST pc co OC CE SL ++ [cutC (nI f) (nI u) (nI v)])
    (fun r h' => r = none ∧ ∃ h1, h' = h1 ++ [cutC (nI f) (nI u) (nI v)] ∧ ChQ (n + 1) (cr lab n sg true (!true) f u v f u v) (upd S n sg) ci h1) := by
  refine zMet_of (plainFor_of_name (by decide +kernel)) rfl (Nat.le_of_ble_eq_true rfl) (fun z1 z2 z3 z4 z5 z6 z7 z8 z9 z10 z11 z12 z13 z14 O hin => ?_)
  refine zi_ls (ls' := [some (.ref 0), some (.ref 18), some (.int sg), some (.int (bI true))]) rfl ?_
  refine zi_aload_n O d_Dia_addKink_0 rfl ?_
  refine zi_iload_n O d_Dia_addKink_1 rfl ?_
  refine zi_aload_n O d_Dia_addKink_2 rfl ?_
  refine zi_iload_n O d_Dia_addKink_3 rfl ?_
  refine zi_aload_n O d_Dia_addKink_4 rfl ?_
  refine zi_iload_n O d_Dia_addKink_5 rfl ?_
  refine zi_if_ne O 13 d_Dia_addKink_6 (by decide) (fun c6 => ?_) (fun c6 => ?_)
  · refine zi_iconstN O 0 d_Dia_addKink_13 (by decide) ?_
    refine zi_selfV O c_Dia_162 k_Dia_addCrossing (m_Dia_addCrossing_0 hn sg (bI true) (bI (!true)) (nI f) (nI u) (nI v) (nI f) (nI u) (nI v)) d_Dia_addKink_14 ⟨(Nat.le_of_ble_eq_true rfl), (Nat.le_of_ble_eq_true rfl)⟩ ⟨(Nat.le_of_ble_eq_true rfl), (Nat.le_of_ble_eq_true rfl)⟩ rfl rfl (Nat.le_of_ble_eq_true rfl) rfl rfl rfl (Nat.le_of_ble_eq_true rfl) rfl (fun r h' hq hl => ?_)
    obtain ⟨rfl, rfl⟩ := hq
    refine zi_st (st' := []) rfl ?_
    refine zi_aload_n O d_Dia_addKink_17 rfl ?_
    refine zi_preV O (diaH ci (n + 1) (up4 L n (if0 (bI (!true)) (nI u) (nI f)) (if1 sg (if0 (bI true) (nI v) (nI u)) (if0 (bI true) (nI u) (nI f))) (if0 (bI (!true)) (nI v) (nI u)) (if1 sg (if0 (bI true) (nI u) (nI f)) (if0 (bI true) (nI v) (nI u)))) (upd S n sg) m PL LB FR TO AT F OF RD ST pc co OC CE SL) [cutC (nI f) (nI u) (nI v)] rfl c_Dia_104 k_Dia_chart (m_Dia_chart2 (n := n + 1) (lab := cr lab n sg true (!true) f u v f u v) (S := upd S n sg) (ci := ci) ⟨_, _, _, _, _, _, _, _, _, _, _, _, _, _, _, _, rfl, rowOK_cr hR hn sg true (!true) hf hu hv hf hu hv, sg_add hG hs, hz⟩) d_Dia_addKink_18 ⟨(Nat.le_of_ble_eq_true rfl), (Nat.le_of_ble_eq_true rfl)⟩ ⟨(Nat.le_of_ble_eq_true rfl), (Nat.le_of_ble_eq_true rfl)⟩ rfl rfl (Nat.le_of_ble_eq_true rfl) rfl rfl rfl (Nat.le_of_ble_eq_true rfl) rfl rfl (fun r h' hq => ?_) rfl (fun r h' hq hl => ?_)
    · obtain ⟨L, m, PL, LB, FR, TO, AT, F, OF, RD, ST, pc, co, OC, CE, SL, rfl⟩ := dr_form (chq_dr hq.2)
      exact ⟨rfl, rfl⟩
    · obtain ⟨⟨x, rfl⟩, hC⟩ := hq
      obtain ⟨L, m, PL, LB, FR, TO, AT, F, OF, RD, ST, pc, co, OC, CE, SL, rfl⟩ := dr_form (chq_dr hC)
      refine zi_st (st' := [.int x]) rfl (zi_h (h' := diaH ci (n + 1) L (upd S n sg) m PL LB FR TO AT F OF RD ST pc co OC CE SL ++ [cutC (nI f) (nI u) (nI v)]) rfl ?_)
      refine zi_pop O d_Dia_addKink_21 rfl ?_
      refine zi_vret O d_Dia_addKink_22 (Nat.le_of_ble_eq_true rfl) (Nat.le_of_ble_eq_true rfl) (Nat.le_of_ble_eq_true rfl) ?_
      exact ⟨rfl, _, rfl, hC⟩
  · exact absurd c6 (by decide)
theorem m_Dia_addKink (ab : Bool) {L PL LB FR TO AT OF RD ST OC CE SL : Nat → Int32} {m F pc co : Nat} (hR : RowOK n L lab) (hG : Sg n S) (hz : ST 0 = nI 0) (hn : n < 20) (sg : Int32) (hs : sg = nI 1 ∨ sg = -1) (f u v : Nat) (hf : 1 ≤ f ∧ f ≤ 9999) (hu : 1 ≤ u ∧ u ≤ 9999) (hv : 1 ≤ v ∧ v ≤ 9999) : zMet y_Dia_addKink b_Dia_addKink 4 none ⟨5, 0, 0, 140⟩ [.ref 0, .ref 18, .int sg, .int (bI ab)] (diaH ci n L S m PL LB FR TO AT F OF RD ST pc co OC CE SL ++ [cutC (nI f) (nI u) (nI v)])
    (fun r h' => r = none ∧ ∃ h1, h' = h1 ++ [cutC (nI f) (nI u) (nI v)] ∧ ChQ (n + 1) (cr lab n sg ab (!ab) f u v f u v) (upd S n sg) ci h1) := by
  cases ab
  · exact m_Dia_addKink_0 hR hG hz hn sg hs f u v hf hu hv
  · exact m_Dia_addKink_1 hR hG hz hn sg hs f u v hf hu hv
theorem m_Dia_twistCircle_no (hD : Dr n lab S ci h) (sg : Int32) (x : Int32) (hc : ¬ 0 < ci) : zPu y_Dia_twistCircle b_Dia_twistCircle 5 (some .boolean) ⟨6, 0, 0, 170⟩ [.ref 0, .int sg, .int x] h (.int (nI 0)) := by
  obtain ⟨L, m, PL, LB, FR, TO, AT, F, OF, RD, ST, pc, co, OC, CE, SL, rfl⟩ := dr_form hD
  refine zMet_of (plainFor_of_name (by decide +kernel)) rfl (Nat.le_of_ble_eq_true rfl) (fun z1 z2 z3 z4 z5 z6 z7 z8 z9 z10 z11 z12 z13 z14 O hin => ?_)
  refine zi_ls (ls' := [some (.ref 0), some (.int sg), some (.int x), none, none]) rfl ?_
  refine zi_aload_n O d_Dia_twistCircle_0 rfl ?_
  refine zi_get O f_Dia_121 d_Dia_twistCircle_1 rfl rfl ?_
  refine zi_if_gt O 9 d_Dia_twistCircle_4 (by decide) (fun c4 => ?_) (fun c4 => ?_)
  · exact absurd c4 hc
  · refine zi_iconstN O 0 d_Dia_twistCircle_7 (by decide) ?_
    refine zi_zret O d_Dia_twistCircle_8 rfl (Nat.le_of_ble_eq_true rfl) (Nat.le_of_ble_eq_true rfl) (Nat.le_of_ble_eq_true rfl) ?_
    exact ⟨rfl, rfl⟩
set_option maxHeartbeats 1000000 in
theorem m_Dia_twistCircle (hD : Dia n lab S ci el fr to_ at_ oc h) (ab : Bool) (sg : Int32) (hs : sg = nI 1 ∨ sg = -1) (hn : n < 20) (hc : 0 < ci) : zMet y_Dia_twistCircle b_Dia_twistCircle 5 (some .boolean) ⟨6, 1, 3, 170⟩ [.ref 0, .int sg, .int (bI ab)] h
    (fun r h' => r = some (.int (nI 1)) ∧ ChQ (n + 1) (cr lab n sg ab (!ab) (fN el (fN el 0 (2 * n)) (2 * n)) (fN el 0 (2 * n)) (fN el (fN el 0 (2 * n)) (2 * n)) (fN el (fN el 0 (2 * n)) (2 * n)) (fN el 0 (2 * n)) (fN el (fN el 0 (2 * n)) (2 * n))) (upd S n sg) (ci - nI 1) h') := by
  obtain ⟨L, PL, LB, FR, TO, AT, OF, RD, ST, OC, CE, SL, rfl, hR, hG, hz, hE, hA, hRd, hO, hP, hOF⟩ := hD
  have b1 := fN_le el 0 (2 * n)
  have b2 := fN_le el (fN el 0 (2 * n)) (2 * n)
  have e1 := fa_el hR hE hA (a := 0) (by omega)
  have e2 := fa_el hR hE hA (a := fN el 0 (2 * n)) (by omega)
  generalize fN el 0 (2 * n) = u at b1 b2 e1 e2 ⊢
  generalize fN el u (2 * n) = v at b2 e2 ⊢
  refine zMet_of (plainFor_of_name (by decide +kernel)) rfl (Nat.le_of_ble_eq_true rfl) (fun z1 z2 z3 z4 z5 z6 z7 z8 z9 z10 z11 z12 z13 z14 O hin => ?_)
  refine zi_ls (ls' := [some (.ref 0), some (.int sg), some (.int (bI ab)), none, none]) rfl ?_
  refine zi_aload_n O d_Dia_twistCircle_0 rfl ?_
  refine zi_get O f_Dia_121 d_Dia_twistCircle_1 rfl rfl ?_
  refine zi_if_gt O 9 d_Dia_twistCircle_4 (by decide) (fun c4 => ?_) (fun c4 => ?_)
  · refine zi_aload_n O d_Dia_twistCircle_9 rfl ?_
    refine zi_dup O d_Dia_twistCircle_10 rfl ?_
    refine zi_get O f_Dia_121 d_Dia_twistCircle_11 rfl rfl ?_
    refine zi_iconstN O 1 d_Dia_twistCircle_14 (by decide) ?_
    first | refine zi_isubN O d_Dia_twistCircle_15 (by omega) ?_ | refine zi_isub O d_Dia_twistCircle_15 ?_
    refine zi_put O f_Dia_121 d_Dia_twistCircle_16 rfl (Nat.le_of_ble_eq_true rfl) (fun _ => rfl) (fun _ => rfl) (by dsimp only [List.set]) ?_
    refine zi_aload_n O d_Dia_twistCircle_19 rfl ?_
    refine zi_get O f_Dia_21 d_Dia_twistCircle_20 rfl rfl ?_
    refine zi_iconstN O 0 d_Dia_twistCircle_23 (by decide) ?_
    refine zi_pureV O [4, 5, 6, 7, 8, 9] c_Dia_143 k_Edg_freeAfter (m_Edg_freeAfter (2 * n) PL LB FR TO AT 0 (by omega)) d_Dia_twistCircle_24 ⟨(Nat.le_of_ble_eq_true rfl), (Nat.le_of_ble_eq_true rfl)⟩ ⟨(Nat.le_of_ble_eq_true rfl), (Nat.le_of_ble_eq_true rfl)⟩ rfl rfl (Nat.le_of_ble_eq_true rfl) rfl rfl rfl rfl rfl (Nat.le_of_ble_eq_true rfl) rfl ?_
    rw [e1]
    refine zi_istore_n (ls' := _ :: _ :: _ :: some _ :: _) O d_Dia_twistCircle_27 rfl (by decide) rfl ?_
    refine zi_aload_n O d_Dia_twistCircle_28 rfl ?_
    refine zi_get O f_Dia_21 d_Dia_twistCircle_29 rfl rfl ?_
    refine zi_iload_n O d_Dia_twistCircle_32 rfl ?_
    refine zi_pureV O [4, 5, 6, 7, 8, 9] c_Dia_143 k_Edg_freeAfter (m_Edg_freeAfter (2 * n) PL LB FR TO AT u (by omega)) d_Dia_twistCircle_33 ⟨(Nat.le_of_ble_eq_true rfl), (Nat.le_of_ble_eq_true rfl)⟩ ⟨(Nat.le_of_ble_eq_true rfl), (Nat.le_of_ble_eq_true rfl)⟩ rfl rfl (Nat.le_of_ble_eq_true rfl) rfl rfl rfl rfl rfl (Nat.le_of_ble_eq_true rfl) rfl ?_
    rw [e2]
    refine zi_istore (ls' := _ :: _ :: _ :: _ :: some _ :: _) O d_Dia_twistCircle_36 rfl (by decide) rfl ?_
    refine zi_aload_n O d_Dia_twistCircle_38 rfl ?_
    refine zi_new (ci := 6) (fs := [.int 0, .int 0, .int 0]) (ty := t_Cut) O d_Dia_twistCircle_39 rfl i_Cut t_Cut_ok z_cl_Dia_146 z_in_Cut z_ini_Cut (by decide) rfl (Nat.le_of_ble_eq_true rfl) (Nat.le_of_ble_eq_true rfl) rfl rfl rfl (Nat.le_of_ble_eq_true rfl) ?_
    dsimp only [List.cons_append, List.nil_append]
    refine zi_dup O d_Dia_twistCircle_42 rfl ?_
    refine zi_iload O d_Dia_twistCircle_43 rfl ?_
    refine zi_iload_n O d_Dia_twistCircle_45 rfl ?_
    refine zi_iload O d_Dia_twistCircle_46 rfl ?_
    refine zi_callI O [18] c_Dia_148 k_Cut_init (m_Cut_init (nI v) (nI u) (nI v)) d_Dia_twistCircle_48 ⟨(Nat.le_of_ble_eq_true rfl), (Nat.le_of_ble_eq_true rfl)⟩ ⟨(Nat.le_of_ble_eq_true rfl), (Nat.le_of_ble_eq_true rfl)⟩ rfl (Nat.le_of_ble_eq_true rfl) rfl rfl rfl rfl rfl (Nat.le_of_ble_eq_true rfl) rfl (fun r h' hq hl => ?_)
    obtain ⟨rfl, rfl⟩ := hq
    refine zi_st (st' := [.ref 18, .ref 0]) rfl (zi_h (h' := diaH (ci - nI 1) n L S (2 * n) PL LB FR TO AT (FF (nxD fr to_ at_) (4 * n) (4 * n)).2 OF RD ST (rc oc n) (FF (nxE to_ at_) (2 * n) (2 * n)).2 OC CE SL ++ [cutC (nI v) (nI u) (nI v)]) rfl ?_)
    refine zi_iload_n O d_Dia_twistCircle_51 rfl ?_
    refine zi_iload_n O d_Dia_twistCircle_52 rfl ?_
    refine zi_selfV O c_Dia_151 k_Dia_addKink (m_Dia_addKink ab hR hG hz hn sg hs v u v (by omega) (by omega) (by omega)) d_Dia_twistCircle_53 ⟨(Nat.le_of_ble_eq_true rfl), (Nat.le_of_ble_eq_true rfl)⟩ ⟨(Nat.le_of_ble_eq_true rfl), (Nat.le_of_ble_eq_true rfl)⟩ rfl rfl (Nat.le_of_ble_eq_true rfl) rfl rfl rfl (Nat.le_of_ble_eq_true rfl) rfl (fun r h' hq hl => ?_)
    obtain ⟨rfl, h1, rfl, hC⟩ := hq
    obtain ⟨L, m, PL, LB, FR, TO, AT, F, OF, RD, ST, pc, co, OC, CE, SL, rfl⟩ := dr_form (chq_dr hC)
    refine zi_drop 18 (zi_st (st' := []) rfl (zi_h (h' := diaH (ci - nI 1) (n + 1) L (upd S n sg) m PL LB FR TO AT F OF RD ST pc co OC CE SL) rfl ?_))
    refine zi_iconstN O 1 d_Dia_twistCircle_56 (by decide) ?_
    refine zi_zret O d_Dia_twistCircle_57 rfl (Nat.le_of_ble_eq_true rfl) (Nat.le_of_ble_eq_true rfl) (Nat.le_of_ble_eq_true rfl) ?_
    exact ⟨rfl, hC⟩
  · exact absurd hc c4
theorem m_Dia_twistEdge_no (hD : Dia n lab S ci el fr to_ at_ oc h) (x sg y : Int32) (hx : ∀ e, e < 2 * n → ¬ nI (el e) = x) : zPu y_Dia_twistEdge b_Dia_twistEdge 5 (some .boolean) ⟨6, 0, 0, 170⟩ [.ref 0, .int x, .int sg, .int y] h (.int (nI 0)) := by
  obtain ⟨L, PL, LB, FR, TO, AT, OF, RD, ST, OC, CE, SL, rfl, hR, hG, hz, hE, hA, hRd, hO, hP, hOF⟩ := hD
  have hn := hR.1
  refine zMet_of (plainFor_of_name (by decide +kernel)) rfl (Nat.le_of_ble_eq_true rfl) (fun z1 z2 z3 z4 z5 z6 z7 z8 z9 z10 z11 z12 z13 z14 O hin => ?_)
  refine zi_ls (ls' := [some (.ref 0), some (.int x), some (.int sg), some (.int y), none]) rfl ?_
  refine zi_aload_n O d_Dia_twistEdge_0 rfl ?_
  refine zi_get O f_Dia_21 d_Dia_twistEdge_1 rfl rfl ?_
  refine zi_iload_n O d_Dia_twistEdge_4 rfl ?_
  refine zi_pureV O [4, 5, 6, 7, 8, 9] c_Dia_155 k_Edg_withLabel (m_Edg_withLabel_no (2 * n) PL LB FR TO AT x (by omega) (fun j hj => by rw [(hA.1 j hj).1]; exact hx j hj)) d_Dia_twistEdge_5 ⟨(Nat.le_of_ble_eq_true rfl), (Nat.le_of_ble_eq_true rfl)⟩ ⟨(Nat.le_of_ble_eq_true rfl), (Nat.le_of_ble_eq_true rfl)⟩ rfl rfl (Nat.le_of_ble_eq_true rfl) rfl rfl rfl rfl rfl (Nat.le_of_ble_eq_true rfl) rfl ?_
  refine zi_istore (ls' := _ :: _ :: _ :: _ :: some _ :: _) O d_Dia_twistEdge_8 rfl (by decide) rfl ?_
  refine zi_iload O d_Dia_twistEdge_10 rfl ?_
  refine zi_if_ge O 17 d_Dia_twistEdge_12 (by decide) (fun c12 => ?_) (fun c12 => ?_)
  · exact absurd c12 (by decide)
  · refine zi_iconstN O 0 d_Dia_twistEdge_15 (by decide) ?_
    refine zi_zret O d_Dia_twistEdge_16 rfl (Nat.le_of_ble_eq_true rfl) (Nat.le_of_ble_eq_true rfl) (Nat.le_of_ble_eq_true rfl) ?_
    exact ⟨rfl, rfl⟩
theorem rowOK_up {L : Nat → Int32} (hR : RowOK n L lab) (q v : Nat) (hv : 1 ≤ v ∧ v ≤ 9999) : RowOK n (upd L q (nI v)) (va_up lab q v) := by
  refine ⟨hR.1, fun r hr => ?_⟩
  unfold upd va_up
  split
  · exact ⟨rfl, hv⟩
  · exact hR.2 r hr
set_option maxHeartbeats 1000000 in
theorem m_Dia_twistEdge (hD : Dia n lab S ci el fr to_ at_ oc h) (ab : Bool) (sg : Int32) (hs : sg = nI 1 ∨ sg = -1) (hn : n < 20) (e : Nat) (he : e < 2 * n) : zMet y_Dia_twistEdge b_Dia_twistEdge 5 (some .boolean) ⟨6, 1, 3, 170⟩ [.ref 0, .int (nI (el e)), .int sg, .int (bI ab)] h
    (fun r h' => r = some (.int (nI 1)) ∧ ChQ (n + 1) (cr (va_up lab (to_ e) (fN el (fN el 0 (2 * n)) (2 * n))) n sg ab (!ab) (el e) (fN el 0 (2 * n)) (fN el (fN el 0 (2 * n)) (2 * n)) (el e) (fN el 0 (2 * n)) (fN el (fN el 0 (2 * n)) (2 * n))) (upd S n sg) ci h') := by
  obtain ⟨L, PL, LB, FR, TO, AT, OF, RD, ST, OC, CE, SL, rfl, hR, hG, hz, hE, hA, hRd, hO, hP, hOF⟩ := hD
  have b1 := fN_le el 0 (2 * n)
  have b2 := fN_le el (fN el 0 (2 * n)) (2 * n)
  have e1 := fa_el hR hE hA (a := 0) (by omega)
  have e2 := fa_el hR hE hA (a := fN el 0 (2 * n)) (by omega)
  have b3 := el_ok hR hE he
  generalize fN el 0 (2 * n) = u at b1 b2 e1 e2 ⊢
  generalize fN el u (2 * n) = v at b2 e2 ⊢
  refine zMet_of (plainFor_of_name (by decide +kernel)) rfl (Nat.le_of_ble_eq_true rfl) (fun z1 z2 z3 z4 z5 z6 z7 z8 z9 z10 z11 z12 z13 z14 O hin => ?_)
  refine zi_ls (ls' := [some (.ref 0), some (.int (nI (el e))), some (.int sg), some (.int (bI ab)), none]) rfl ?_
  refine zi_aload_n O d_Dia_twistEdge_0 rfl ?_
  refine zi_get O f_Dia_21 d_Dia_twistEdge_1 rfl rfl ?_
  refine zi_iload_n O d_Dia_twistEdge_4 rfl ?_
  refine zi_pureV O [4, 5, 6, 7, 8, 9] c_Dia_155 k_Edg_withLabel (m_Edg_withLabel (2 * n) PL LB FR TO AT (nI (el e)) (by omega) e he (hA.1 e he).1 (fun j hj z => by rw [(hA.1 j (by omega)).1] at z; have := (nI_eq (by have := el_ok hR hE (e := j) (by omega); omega) (by omega)).mp z; have := hE.2.1 j e hj he; omega)) d_Dia_twistEdge_5 ⟨(Nat.le_of_ble_eq_true rfl), (Nat.le_of_ble_eq_true rfl)⟩ ⟨(Nat.le_of_ble_eq_true rfl), (Nat.le_of_ble_eq_true rfl)⟩ rfl rfl (Nat.le_of_ble_eq_true rfl) rfl rfl rfl rfl rfl (Nat.le_of_ble_eq_true rfl) rfl ?_
  refine zi_istore (ls' := _ :: _ :: _ :: _ :: some _ :: _) O d_Dia_twistEdge_8 rfl (by decide) rfl ?_
  refine zi_iload O d_Dia_twistEdge_10 rfl ?_
  refine zi_if_ge O 17 d_Dia_twistEdge_12 (by decide) (fun c12 => ?_) (fun c12 => ?_)
  · refine zi_aload_n O d_Dia_twistEdge_17 rfl ?_
    refine zi_aload_n O d_Dia_twistEdge_18 rfl ?_
    refine zi_iload O d_Dia_twistEdge_19 rfl ?_
    refine zi_iconstN O 0 d_Dia_twistEdge_21 (by decide) ?_
    refine zi_selfV O c_Dia_158 k_Dia_cutEdge (m_Dia_cutEdge (by omega) hE hA e 0 he) d_Dia_twistEdge_22 ⟨(Nat.le_of_ble_eq_true rfl), (Nat.le_of_ble_eq_true rfl)⟩ ⟨(Nat.le_of_ble_eq_true rfl), (Nat.le_of_ble_eq_true rfl)⟩ rfl rfl (Nat.le_of_ble_eq_true rfl) rfl rfl rfl (Nat.le_of_ble_eq_true rfl) rfl (fun r h' hq hl => ?_)
    obtain ⟨rfl, rfl⟩ := hq
    rw [e1, e2]
    refine zi_st (st' := [.ref 18, .ref 0]) rfl ?_
    refine zi_iload_n O d_Dia_twistEdge_25 rfl ?_
    refine zi_iload_n O d_Dia_twistEdge_26 rfl ?_
    refine zi_selfV O c_Dia_151 k_Dia_addKink (m_Dia_addKink (ci := ci) ab (rowOK_up hR (to_ e) v (by omega)) hG hz hn sg hs (el e) u v b3 (by omega) (by omega)) d_Dia_twistEdge_27 ⟨(Nat.le_of_ble_eq_true rfl), (Nat.le_of_ble_eq_true rfl)⟩ ⟨(Nat.le_of_ble_eq_true rfl), (Nat.le_of_ble_eq_true rfl)⟩ rfl rfl (Nat.le_of_ble_eq_true rfl) rfl rfl rfl (Nat.le_of_ble_eq_true rfl) rfl (fun r h' hq hl => ?_)
    obtain ⟨rfl, h1, rfl, hC⟩ := hq
    obtain ⟨L, m, PL, LB, FR, TO, AT, F, OF, RD, ST, pc, co, OC, CE, SL, rfl⟩ := dr_form (chq_dr hC)
    refine zi_drop 18 (zi_st (st' := []) rfl (zi_h (h' := diaH ci (n + 1) L (upd S n sg) m PL LB FR TO AT F OF RD ST pc co OC CE SL) rfl ?_))
    refine zi_iconstN O 1 d_Dia_twistEdge_30 (by decide) ?_
    refine zi_zret O d_Dia_twistEdge_31 rfl (Nat.le_of_ble_eq_true rfl) (Nat.le_of_ble_eq_true rfl) (Nat.le_of_ble_eq_true rfl) ?_
    exact ⟨rfl, hC⟩
  · exact absurd (nI_pos' (by omega)) c12
theorem m_Dia_canMeet (hD : Dia n lab S ci el fr to_ at_ oc h) (a b : Nat) (ha : a < 4 * n) (hb : b < 4 * n) : zPu y_Dia_canMeet b_Dia_canMeet 5 (some .boolean) ⟨2, 0, 0, 60⟩ [.ref 0, .int (nI a), .int (nI b)] h (.int (zb (oc (ca fr to_ a) ≠ oc (ca fr to_ b) ∨ (FF (nxD fr to_ at_) (4 * n) (4 * n)).1 a = (FF (nxD fr to_ at_) (4 * n) (4 * n)).1 b))) := by
  have hD' := hD
  obtain ⟨L, PL, LB, FR, TO, AT, OF, RD, ST, OC, CE, SL, rfl, hR, hG, hz, hE, hA, hRd, hO, hP, hOF⟩ := hD
  have hn := hR.1
  have c0 : ca fr to_ a < n := by have := ar_lt hE ha; unfold ca; omega
  have c1 : ca fr to_ b < n := by have := ar_lt hE hb; unfold ca; omega
  have p0 := (hP.1 _ c0).1
  have p1 := (hP.1 _ c1).1
  refine zMet_of (plainFor_of_name (by decide +kernel)) rfl (Nat.le_of_ble_eq_true rfl) (fun z1 z2 z3 z4 z5 z6 z7 z8 z9 z10 z11 z12 z13 z14 O hin => ?_)
  refine zi_ls (ls' := [some (.ref 0), some (.int (nI a)), some (.int (nI b)), none, none]) rfl ?_
  refine zi_aload_n O d_Dia_canMeet_0 rfl ?_
  refine zi_get O f_Dia_35 d_Dia_canMeet_1 rfl rfl ?_
  refine zi_get O f_Dia_183 d_Dia_canMeet_4 rfl rfl ?_
  refine zi_aload_n O d_Dia_canMeet_7 rfl ?_
  refine zi_iload_n O d_Dia_canMeet_8 rfl ?_
  refine zi_selfP O c_Dia_78 k_Dia_crossingAhead (m_Dia_crossingAhead hD' a ha) d_Dia_canMeet_9 ⟨(Nat.le_of_ble_eq_true rfl), (Nat.le_of_ble_eq_true rfl)⟩ ⟨(Nat.le_of_ble_eq_true rfl), (Nat.le_of_ble_eq_true rfl)⟩ rfl rfl (Nat.le_of_ble_eq_true rfl) rfl rfl rfl (Nat.le_of_ble_eq_true rfl) rfl ?_
  refine zi_iald O d_Dia_canMeet_12 rfl rfl (by omega) (Nat.le_of_ble_eq_true rfl) ?_
  rw [hO _ c0]
  refine zi_istore_n (ls' := _ :: _ :: _ :: some _ :: _) O d_Dia_canMeet_13 rfl (by decide) rfl ?_
  refine zi_aload_n O d_Dia_canMeet_14 rfl ?_
  refine zi_get O f_Dia_35 d_Dia_canMeet_15 rfl rfl ?_
  refine zi_get O f_Dia_183 d_Dia_canMeet_18 rfl rfl ?_
  refine zi_aload_n O d_Dia_canMeet_21 rfl ?_
  refine zi_iload_n O d_Dia_canMeet_22 rfl ?_
  refine zi_selfP O c_Dia_78 k_Dia_crossingAhead (m_Dia_crossingAhead hD' b hb) d_Dia_canMeet_23 ⟨(Nat.le_of_ble_eq_true rfl), (Nat.le_of_ble_eq_true rfl)⟩ ⟨(Nat.le_of_ble_eq_true rfl), (Nat.le_of_ble_eq_true rfl)⟩ rfl rfl (Nat.le_of_ble_eq_true rfl) rfl rfl rfl (Nat.le_of_ble_eq_true rfl) rfl ?_
  refine zi_iald O d_Dia_canMeet_26 rfl rfl (by omega) (Nat.le_of_ble_eq_true rfl) ?_
  rw [hO _ c1]
  refine zi_istore (ls' := _ :: _ :: _ :: _ :: some _ :: _) O d_Dia_canMeet_27 rfl (by decide) rfl ?_
  refine zi_iload_n O d_Dia_canMeet_29 rfl ?_
  refine zi_iload O d_Dia_canMeet_30 rfl ?_
  refine zi_icmp_neN O 56 d_Dia_canMeet_32 (by decide) (by omega) (by omega) (fun c32 => ?_) (fun c32 => ?_)
  · refine zi_iconstN O 1 d_Dia_canMeet_56 (by decide) ?_
    refine zi_goto O 61 d_Dia_canMeet_57 (by decide) ?_
    refine zi_zret O d_Dia_canMeet_61 rfl (Nat.le_of_ble_eq_true rfl) (Nat.le_of_ble_eq_true rfl) (Nat.le_of_ble_eq_true rfl) ?_
    exact ⟨by rw [zb_t (Or.inl c32)]; rfl, rfl⟩
  · refine zi_aload_n O d_Dia_canMeet_35 rfl ?_
    refine zi_get O f_Dia_28 d_Dia_canMeet_36 rfl rfl ?_
    refine zi_get O f_Dia_186 d_Dia_canMeet_39 rfl rfl ?_
    refine zi_iload_n O d_Dia_canMeet_42 rfl ?_
    refine zi_iald O d_Dia_canMeet_43 rfl rfl (by omega) (Nat.le_of_ble_eq_true rfl) ?_
    rw [hOF a ha]
    refine zi_aload_n O d_Dia_canMeet_44 rfl ?_
    refine zi_get O f_Dia_28 d_Dia_canMeet_45 rfl rfl ?_
    refine zi_get O f_Dia_186 d_Dia_canMeet_48 rfl rfl ?_
    refine zi_iload_n O d_Dia_canMeet_51 rfl ?_
    refine zi_iald O d_Dia_canMeet_52 rfl rfl (by omega) (Nat.le_of_ble_eq_true rfl) ?_
    rw [hOF b hb]
    refine zi_icmp_ne O 60 d_Dia_canMeet_53 (by decide) (fun c53 => ?_) (fun c53 => ?_)
    · refine zi_iconstN O 0 d_Dia_canMeet_60 (by decide) ?_
      refine zi_zret O d_Dia_canMeet_61 rfl (Nat.le_of_ble_eq_true rfl) (Nat.le_of_ble_eq_true rfl) (Nat.le_of_ble_eq_true rfl) ?_
      exact ⟨by rw [zb_f (fun z => z.elim (fun q => q c32) c53)]; rfl, rfl⟩
    · refine zi_iconstN O 1 d_Dia_canMeet_56 (by decide) ?_
      refine zi_goto O 61 d_Dia_canMeet_57 (by decide) ?_
      refine zi_zret O d_Dia_canMeet_61 rfl (Nat.le_of_ble_eq_true rfl) (Nat.le_of_ble_eq_true rfl) (Nat.le_of_ble_eq_true rfl) ?_
      exact ⟨by rw [zb_t (Or.inr c53)]; rfl, rfl⟩
end
