/-! The model: take, back, fault, check -/
/-- the model's cells: the put row, the diagram -/
def Mdl (k : Nat) (plab : Nat → Nat) (T : Nat → Int32) (n : Nat) (lab : Nat → Nat) (S0 : Nat → Int32) (ci : Int32) (h : List zE) : Prop := ∃ (wrong : Int32) (pS pL : Nat → Int32) (oN : Nat) (oC : Int32) (S L oS oL : Nat → Int32) (labs : Nat) (row fresh piece : Nat → Int32) (closed faces : Nat) (comp fof : Nat → Int32) (sides : Nat) (side free arnd : Nat → Int32), h = (mh k wrong pS pL n ci oN oC S L oS oL labs row fresh piece closed faces comp fof sides side free arnd) ∧ RowOK n L lab ∧ (∀ c, c < n → S c = S0 c) ∧ Sg n S0 ∧ RowOK k pL plab ∧ (∀ c, c < k → pS c = T c) ∧ Sg k T
/-- which fault, piece by piece -/
def FQ (n : Nat) (lab : Nat → Nat) (S : Nat → Int32) (f : Nat) : Prop := (f = 1 ∧ ¬ C1 n lab) ∨ (f = 2 ∧ C1 n lab ∧ ¬ C2 n lab S) ∨ ∃ el fr to_ at_ oc : Nat → Nat, Ed n lab S el fr to_ at_ ∧ PcE (2 * n) n fr to_ oc ∧ ((f = 0 ∧ ∀ k, k < n → oc k = k → cnt (fbg n fr to_ at_ oc k) (4 * n) = cnt (fun c => oc c = k) n + 2) ∨ (f = 3 ∧ ∃ k, k < n ∧ oc k = k ∧ cnt (fbg n fr to_ at_ oc k) (4 * n) ≠ cnt (fun c => oc c = k) n + 2))
theorem gi_same {n : Nat} {S S' : Nat → Int32} (h : ∀ c, c < n → S' c = S c) {q : Nat} (hq : q < 4 * n) : gi S' q ↔ gi S q := by
  have : up S' (q / 4) = up S (q / 4) := by unfold up; rw [h _ (by omega)]
  unfold gi
  rw [this]
theorem ed_same {n : Nat} {lab lab' : Nat → Nat} {S S' : Nat → Int32} {el fr to_ at_ : Nat → Nat} (h : Ed n lab S el fr to_ at_) (hl : ∀ q, q < 4 * n → lab' q = lab q) (hs : ∀ c, c < n → S' c = S c) : Ed n lab' S' el fr to_ at_ := by
  refine ⟨fun e he => ?_, h.2.1, h.2.2⟩
  obtain ⟨f1, f2, f3, f4, f5, f6⟩ := h.1 e he
  exact ⟨f1, f2, by rw [hl _ f1]; exact f3, by rw [hl _ f2]; exact f4, fun z => f5 ((gi_same hs f1).mp z), (gi_same hs f2).mpr f6⟩
theorem sg_same {n : Nat} {S S' : Nat → Int32} (h : Sg n S) (hs : ∀ c, c < n → S' c = S c) : Sg n S' := fun c hc => by rw [hs c hc]; exact h c hc
theorem fq_same {n f : Nat} {lab : Nat → Nat} {S S' : Nat → Int32} (h : FQ n lab S f) (hs : ∀ c, c < n → S' c = S c) : FQ n lab S' f := by
  have h2 : C2 n lab S' ↔ C2 n lab S := by
    constructor <;> intro z q r hq hr hne hl
    · have := z q r hq hr hne hl; rw [gi_same hs hq, gi_same hs hr] at this; exact this
    · rw [gi_same hs hq, gi_same hs hr]; exact z q r hq hr hne hl
  rcases h with h | ⟨a, b, c⟩ | ⟨el, fr, to_, at_, oc, hE, h⟩
  · exact Or.inl h
  · exact Or.inr (Or.inl ⟨a, b, fun z => c (h2.mp z)⟩)
  · exact Or.inr (Or.inr ⟨el, fr, to_, at_, oc, ed_same hE (fun _ _ => rfl) hs, h⟩)
section
variable {put n oN labs closed faces sides : Nat} {wrong ci oC : Int32} {pS pL S L oS oL row fresh piece comp fof side free arnd : Nat → Int32}
set_option maxHeartbeats 1000000 in
theorem m_Mod_fault {lab : Nat → Nat} {f : Nat} (hR : RowOK n L lab) (hG : Sg n S) (hF : FQ n lab S f) : zMet y_Mod_fault b_Mod_fault 1 (some .int) ⟨5, 0, 0, 140⟩ [.ref 0] (mh put wrong pS pL n ci oN oC S L oS oL labs row fresh piece closed faces comp fof sides side free arnd)
    (fun r h' => r = some (.int (nI f)) ∧ ∃ (wrong' : Int32) (m faces' : Nat) (row' fof' piece' : Nat → Int32), h' = (mh put wrong' pS pL n ci oN oC S L oS oL m row' fresh piece' closed faces' comp fof' sides side free arnd)) := by
  refine zMet_of (plainFor_of_name (by decide +kernel)) rfl (Nat.le_of_ble_eq_true rfl) (fun z1 z2 z3 z4 z5 z6 z7 z8 z9 z10 z11 z12 z13 z14 O hin => ?_)
  refine zi_ls (ls' := [some (.ref 0)]) rfl ?_
  refine zi_aload_n O d_Mod_fault_0 rfl ?_
  refine zi_aload_n O d_Mod_fault_1 rfl ?_
  refine zi_iconstN O 0 d_Mod_fault_2 (by decide) ?_
  refine zi_selfV O c_Mod_116 k_Mod_badLabel (m_Mod_badLabel_0 hR) d_Mod_fault_3 ⟨(Nat.le_of_ble_eq_true rfl), (Nat.le_of_ble_eq_true rfl)⟩ ⟨(Nat.le_of_ble_eq_true rfl), (Nat.le_of_ble_eq_true rfl)⟩ rfl rfl (Nat.le_of_ble_eq_true rfl) rfl rfl rfl (Nat.le_of_ble_eq_true rfl) rfl (fun r h' hq hl => ?_)
  obtain ⟨v, m, row', rfl, rfl, hq⟩ := hq
  refine zi_st (st' := [.int v, .ref 0]) rfl ?_
  refine zi_put O f_Mod_7 d_Mod_fault_6 rfl (Nat.le_of_ble_eq_true rfl) (fun _ => rfl) (fun _ => rfl) (by dsimp only [List.set]) ?_
  refine zi_aload_n O d_Mod_fault_9 rfl ?_
  refine zi_get O f_Mod_7 d_Mod_fault_10 rfl rfl ?_
  rcases hq with ⟨v1, k1⟩ | ⟨v1, k1⟩
  · refine zi_if_lt O 18 d_Mod_fault_13 (by decide) (fun c13 => ?_) (fun c13 => ?_)
    · refine zi_aload_n O d_Mod_fault_18 rfl ?_
      refine zi_aload_n O d_Mod_fault_19 rfl ?_
      refine zi_iconstN O 1 d_Mod_fault_20 (by decide) ?_
      refine zi_selfV O c_Mod_116 k_Mod_badLabel (m_Mod_badLabel_1 hR hG k1) d_Mod_fault_21 ⟨(Nat.le_of_ble_eq_true rfl), (Nat.le_of_ble_eq_true rfl)⟩ ⟨(Nat.le_of_ble_eq_true rfl), (Nat.le_of_ble_eq_true rfl)⟩ rfl rfl (Nat.le_of_ble_eq_true rfl) rfl rfl rfl (Nat.le_of_ble_eq_true rfl) rfl (fun r h' hq hl => ?_)
      obtain ⟨v, m, row', rfl, rfl, hq⟩ := hq
      refine zi_st (st' := [.int v, .ref 0]) rfl ?_
      refine zi_put O f_Mod_7 d_Mod_fault_24 rfl (Nat.le_of_ble_eq_true rfl) (fun _ => rfl) (fun _ => rfl) (by dsimp only [List.set]) ?_
      refine zi_aload_n O d_Mod_fault_27 rfl ?_
      refine zi_get O f_Mod_7 d_Mod_fault_28 rfl rfl ?_
      rcases hq with ⟨v2, k2⟩ | ⟨v2, k2⟩
      · refine zi_if_lt O 36 d_Mod_fault_31 (by decide) (fun c31 => ?_) (fun c31 => ?_)
        · obtain ⟨el, fr, to_, at_, oc, hE, hP, hgo⟩ : ∃ el fr to_ at_ oc : Nat → Nat, Ed n lab S el fr to_ at_ ∧ PcE (2 * n) n fr to_ oc ∧ ((f = 0 ∧ ∀ k, k < n → oc k = k → cnt (fbg n fr to_ at_ oc k) (4 * n) = cnt (fun c => oc c = k) n + 2) ∨ (f = 3 ∧ ∃ k, k < n ∧ oc k = k ∧ cnt (fbg n fr to_ at_ oc k) (4 * n) ≠ cnt (fun c => oc c = k) n + 2)) := by
            rcases hF with ⟨-, z⟩ | ⟨-, -, z⟩ | z
            · exact absurd k1 z
            · exact absurd k2 z
            · exact z
          refine zi_aload_n O d_Mod_fault_36 rfl ?_
          refine zi_aload_n O d_Mod_fault_37 rfl ?_
          refine zi_selfV O c_Mod_120 k_Mod_badPiece (m_Mod_badPiece hR hG hE hP) d_Mod_fault_38 ⟨(Nat.le_of_ble_eq_true rfl), (Nat.le_of_ble_eq_true rfl)⟩ ⟨(Nat.le_of_ble_eq_true rfl), (Nat.le_of_ble_eq_true rfl)⟩ rfl rfl (Nat.le_of_ble_eq_true rfl) rfl rfl rfl (Nat.le_of_ble_eq_true rfl) rfl (fun r h' hq hl => ?_)
          obtain ⟨v, row', fof', piece', rfl, rfl, hq⟩ := hq
          refine zi_st (st' := [.int v, .ref 0]) rfl ?_
          refine zi_put O f_Mod_7 d_Mod_fault_41 rfl (Nat.le_of_ble_eq_true rfl) (fun _ => rfl) (fun _ => rfl) (by dsimp only [List.set]) ?_
          refine zi_aload_n O d_Mod_fault_44 rfl ?_
          refine zi_get O f_Mod_7 d_Mod_fault_45 rfl rfl ?_
          rcases hq with ⟨v3, k3⟩ | ⟨v3, k, q1, q2, q3⟩
          · have hf : f = 0 := by
              rcases hgo with ⟨z, -⟩ | ⟨-, k, q1, q2, q3⟩
              · exact z
              · exact absurd (k3 k q1 q2) q3
            subst hf
            refine zi_if_lt O 55 d_Mod_fault_48 (by decide) (fun c48 => ?_) (fun c48 => ?_)
            · refine zi_iconstN O 0 d_Mod_fault_55 (by decide) ?_
              refine zi_iret O d_Mod_fault_56 (Nat.le_of_ble_eq_true rfl) (Nat.le_of_ble_eq_true rfl) (Nat.le_of_ble_eq_true rfl) ?_
              exact ⟨rfl, _, _, _, _, _, _, rfl⟩
            · exact absurd v3 c48
          · have hf : f = 3 := by
              rcases hgo with ⟨-, z⟩ | ⟨z, -⟩
              · exact absurd (z k q1 q2) q3
              · exact z
            subst hf
            refine zi_if_lt O 55 d_Mod_fault_48 (by decide) (fun c48 => ?_) (fun c48 => ?_)
            · exact absurd c48 v3
            · refine zi_iconstN O 3 d_Mod_fault_51 (by decide) ?_
              refine zi_goto O 56 d_Mod_fault_52 (by decide) ?_
              refine zi_iret O d_Mod_fault_56 (Nat.le_of_ble_eq_true rfl) (Nat.le_of_ble_eq_true rfl) (Nat.le_of_ble_eq_true rfl) ?_
              exact ⟨rfl, _, _, _, _, _, _, rfl⟩
        · exact absurd v2 c31
      · refine zi_if_lt O 36 d_Mod_fault_31 (by decide) (fun c31 => ?_) (fun c31 => ?_)
        · exact absurd c31 v2
        · refine zi_iconstN O 2 d_Mod_fault_34 (by decide) ?_
          refine zi_iret O d_Mod_fault_35 (Nat.le_of_ble_eq_true rfl) (Nat.le_of_ble_eq_true rfl) (Nat.le_of_ble_eq_true rfl) ?_
          refine ⟨?_, _, _, _, _, _, _, rfl⟩
          rcases hF with ⟨-, z⟩ | ⟨z, -⟩ | ⟨el, fr, to_, at_, oc, hE, -⟩
          · exact absurd k1 z
          · rw [z]
          · exact absurd (ed_val hE).2 k2
    · exact absurd v1 c13
  · refine zi_if_lt O 18 d_Mod_fault_13 (by decide) (fun c13 => ?_) (fun c13 => ?_)
    · exact absurd c13 v1
    · refine zi_iconstN O 1 d_Mod_fault_16 (by decide) ?_
      refine zi_iret O d_Mod_fault_17 (Nat.le_of_ble_eq_true rfl) (Nat.le_of_ble_eq_true rfl) (Nat.le_of_ble_eq_true rfl) ?_
      refine ⟨?_, _, _, _, _, _, _, rfl⟩
      rcases hF with ⟨z, -⟩ | ⟨-, z, -⟩ | ⟨el, fr, to_, at_, oc, hE, -⟩
      · rw [z]
      · exact absurd z k1
      · exact absurd (ed_val hE).1 k1
set_option maxHeartbeats 1000000 in
theorem m_Mod_take (hk : put ≤ 20) : zMet y_Mod_take b_Mod_take 2 none ⟨0, 0, 0, 0⟩ [.ref 0] (mh put wrong pS pL n ci oN oC S L oS oL labs row fresh piece closed faces comp fof sides side free arnd)
    (fun r h' => r = none ∧ ∃ (oS' oL' S' L' : Nat → Int32), h' = (mh 0 wrong pS pL put ci n ci S' L' oS' oL' labs row fresh piece closed faces comp fof sides side free arnd) ∧ (∀ c, c < 20 → oS' c = S c) ∧ (∀ q, q < 80 → oL' q = L q) ∧ (∀ c, c < put → S' c = pS c) ∧ ∀ q, q < 4 * put → L' q = pL q) := by
  refine zMet_of (plainFor_of_name (by decide +kernel)) rfl (Nat.le_of_ble_eq_true rfl) (fun z1 z2 z3 z4 z5 z6 z7 z8 z9 z10 z11 z12 z13 z14 O hin => ?_)
  refine zi_ls (ls' := [some (.ref 0), none]) rfl ?_
  refine zi_aload_n O d_Mod_take_0 rfl ?_
  refine zi_aload_n O d_Mod_take_1 rfl ?_
  refine zi_get O f_Mod_59 d_Mod_take_2 rfl rfl ?_
  refine zi_put O f_Mod_101 d_Mod_take_5 rfl (Nat.le_of_ble_eq_true rfl) (fun _ => rfl) (fun _ => rfl) (by dsimp only [List.set]) ?_
  refine zi_aload_n O d_Mod_take_8 rfl ?_
  refine zi_aload_n O d_Mod_take_9 rfl ?_
  refine zi_get O f_Mod_104 d_Mod_take_10 rfl rfl ?_
  refine zi_put O f_Mod_107 d_Mod_take_13 rfl (Nat.le_of_ble_eq_true rfl) (fun _ => rfl) (fun _ => rfl) (by dsimp only [List.set]) ?_
  refine zi_iconstN O 0 d_Mod_take_16 (by decide) ?_
  refine zi_istore_n (ls' := _ :: some _ :: _) O d_Mod_take_17 rfl (by decide) rfl ?_
  refine zi_loop (σ := Nat × (Nat → Int32)) (fun x => [some (.ref 0), some (.int (nI x.1))]) (fun x => (mh put wrong pS pL n ci n ci S L (x.2) oL labs row fresh piece closed faces comp fof sides side free arnd)) (fun x => x.1 ≤ 20 ∧ ∀ q, q < x.1 → x.2 q = S q) (fun x => 20 - x.1) (0, oS) rfl rfl ⟨Nat.zero_le _, fun q hq => absurd hq (Nat.not_lt_zero q)⟩ ?_
  rintro ⟨i, A⟩ ⟨hi, hA⟩ ih
  dsimp only at hi hA ih ⊢
  refine zi_iload_n O d_Mod_take_18 rfl ?_
  refine zi_bipushN O 20 d_Mod_take_19 (by decide) ?_
  refine zi_icmp_geN O 42 d_Mod_take_21 (by decide) (by omega) (by omega) (fun c21 => ?_) (fun c21 => ?_)
  · refine zi_iconstN O 0 d_Mod_take_42 (by decide) ?_
    refine zi_istore_n (ls' := _ :: some _ :: _) O d_Mod_take_43 rfl (by decide) rfl ?_
    refine zi_loop (σ := Nat × (Nat → Int32)) (fun x => [some (.ref 0), some (.int (nI x.1))]) (fun x => (mh put wrong pS pL n ci n ci S L A (x.2) labs row fresh piece closed faces comp fof sides side free arnd)) (fun x => x.1 ≤ 80 ∧ ∀ q, q < x.1 → x.2 q = L q) (fun x => 80 - x.1) (0, oL) rfl rfl ⟨Nat.zero_le _, fun q hq => absurd hq (Nat.not_lt_zero q)⟩ ?_
    rintro ⟨i2, B⟩ ⟨hi2, hB⟩ ih2
    dsimp only at hi2 hB ih2 ⊢
    refine zi_iload_n O d_Mod_take_44 rfl ?_
    refine zi_bipushN O 80 d_Mod_take_45 (by decide) ?_
    refine zi_icmp_geN O 68 d_Mod_take_47 (by decide) (by omega) (by omega) (fun c47 => ?_) (fun c47 => ?_)
    · refine zi_aload_n O d_Mod_take_68 rfl ?_
      refine zi_aload_n O d_Mod_take_69 rfl ?_
      refine zi_get O f_Mod_98 d_Mod_take_70 rfl rfl ?_
      refine zi_put O f_Mod_59 d_Mod_take_73 rfl (Nat.le_of_ble_eq_true rfl) (fun _ => rfl) (fun _ => rfl) (by dsimp only [List.set]) ?_
      refine zi_iconstN O 0 d_Mod_take_76 (by decide) ?_
      refine zi_istore_n (ls' := _ :: some _ :: _) O d_Mod_take_77 rfl (by decide) rfl ?_
      refine zi_loop (σ := Nat × (Nat → Int32)) (fun x => [some (.ref 0), some (.int (nI x.1))]) (fun x => (mh put wrong pS pL put ci n ci (x.2) L A B labs row fresh piece closed faces comp fof sides side free arnd)) (fun x => x.1 ≤ put ∧ ∀ q, q < x.1 → x.2 q = pS q) (fun x => put - x.1) (0, S) rfl rfl ⟨Nat.zero_le _, fun q hq => absurd hq (Nat.not_lt_zero q)⟩ ?_
      rintro ⟨i3, C⟩ ⟨hi3, hC⟩ ih3
      dsimp only at hi3 hC ih3 ⊢
      refine zi_iload_n O d_Mod_take_78 rfl ?_
      refine zi_aload_n O d_Mod_take_79 rfl ?_
      refine zi_get O f_Mod_59 d_Mod_take_80 rfl rfl ?_
      refine zi_icmp_geN O 104 d_Mod_take_83 (by decide) (by omega) (by omega) (fun c83 => ?_) (fun c83 => ?_)
      · refine zi_iconstN O 0 d_Mod_take_104 (by decide) ?_
        refine zi_istore_n (ls' := _ :: some _ :: _) O d_Mod_take_105 rfl (by decide) rfl ?_
        refine zi_loop (σ := Nat × (Nat → Int32)) (fun x => [some (.ref 0), some (.int (nI x.1))]) (fun x => (mh put wrong pS pL put ci n ci C (x.2) A B labs row fresh piece closed faces comp fof sides side free arnd)) (fun x => x.1 ≤ 4 * put ∧ ∀ q, q < x.1 → x.2 q = pL q) (fun x => 4 * put - x.1) (0, L) rfl rfl ⟨Nat.zero_le _, fun q hq => absurd hq (Nat.not_lt_zero q)⟩ ?_
        rintro ⟨i4, D⟩ ⟨hi4, hD⟩ ih4
        dsimp only at hi4 hD ih4 ⊢
        refine zi_iload_n O d_Mod_take_106 rfl ?_
        refine zi_iconstN O 4 d_Mod_take_107 (by decide) ?_
        refine zi_aload_n O d_Mod_take_108 rfl ?_
        refine zi_get O f_Mod_59 d_Mod_take_109 rfl rfl ?_
        first | refine zi_imulN O d_Mod_take_112 ?_ | refine zi_imul O d_Mod_take_112 ?_
        refine zi_icmp_geN O 134 d_Mod_take_113 (by decide) (by omega) (by omega) (fun c113 => ?_) (fun c113 => ?_)
        · refine zi_aload_n O d_Mod_take_134 rfl ?_
          refine zi_iconstN O 0 d_Mod_take_135 (by decide) ?_
          refine zi_put O f_Mod_98 d_Mod_take_136 rfl (Nat.le_of_ble_eq_true rfl) (fun _ => rfl) (fun _ => rfl) (by dsimp only [List.set]) ?_
          refine zi_vret O d_Mod_take_139 (Nat.le_of_ble_eq_true rfl) (Nat.le_of_ble_eq_true rfl) (Nat.le_of_ble_eq_true rfl) ?_
          exact ⟨rfl, A, B, C, D, rfl, fun c hc => hA c (by omega), fun q hq => hB q (by omega), fun c hc => hC c (by omega), fun q hq => hD q (by omega)⟩
        · refine zi_aload_n O d_Mod_take_116 rfl ?_
          refine zi_get O f_Mod_23 d_Mod_take_117 rfl rfl ?_
          refine zi_iload_n O d_Mod_take_120 rfl ?_
          refine zi_aload_n O d_Mod_take_121 rfl ?_
          refine zi_get O f_Mod_17 d_Mod_take_122 rfl rfl ?_
          refine zi_iload_n O d_Mod_take_125 rfl ?_
          refine zi_iald O d_Mod_take_126 rfl rfl (by omega) (Nat.le_of_ble_eq_true rfl) ?_
          refine zi_iast O d_Mod_take_127 rfl rfl (by omega) (Nat.le_of_ble_eq_true rfl) (by dsimp only [List.set]) ?_
          refine zi_iincN (ls' := _ :: some _ :: _) O 1 d_Mod_take_128 rfl (by decide) rfl (by decide) rfl ?_
          refine zi_goto O 106 d_Mod_take_131 (by decide) ?_
          refine ih4 (i4 + 1, upd D i4 (pL i4)) ⟨by dsimp only; omega, fun q hq => ?_⟩ (by dsimp only; omega)
          dsimp only at hq ⊢
          by_cases c : q = i4
          · rw [c, pk_us]
          · rw [pk_un c]; exact hD q (by omega)
      · refine zi_aload_n O d_Mod_take_86 rfl ?_
        refine zi_get O f_Mod_20 d_Mod_take_87 rfl rfl ?_
        refine zi_iload_n O d_Mod_take_90 rfl ?_
        refine zi_aload_n O d_Mod_take_91 rfl ?_
        refine zi_get O f_Mod_13 d_Mod_take_92 rfl rfl ?_
        refine zi_iload_n O d_Mod_take_95 rfl ?_
        refine zi_iald O d_Mod_take_96 rfl rfl (by omega) (Nat.le_of_ble_eq_true rfl) ?_
        refine zi_iast O d_Mod_take_97 rfl rfl (by omega) (Nat.le_of_ble_eq_true rfl) (by dsimp only [List.set]) ?_
        refine zi_iincN (ls' := _ :: some _ :: _) O 1 d_Mod_take_98 rfl (by decide) rfl (by decide) rfl ?_
        refine zi_goto O 78 d_Mod_take_101 (by decide) ?_
        refine ih3 (i3 + 1, upd C i3 (pS i3)) ⟨by dsimp only; omega, fun q hq => ?_⟩ (by dsimp only; omega)
        dsimp only at hq ⊢
        by_cases c : q = i3
        · rw [c, pk_us]
        · rw [pk_un c]; exact hC q (by omega)
    · refine zi_aload_n O d_Mod_take_50 rfl ?_
      refine zi_get O f_Mod_29 d_Mod_take_51 rfl rfl ?_
      refine zi_iload_n O d_Mod_take_54 rfl ?_
      refine zi_aload_n O d_Mod_take_55 rfl ?_
      refine zi_get O f_Mod_23 d_Mod_take_56 rfl rfl ?_
      refine zi_iload_n O d_Mod_take_59 rfl ?_
      refine zi_iald O d_Mod_take_60 rfl rfl (by omega) (Nat.le_of_ble_eq_true rfl) ?_
      refine zi_iast O d_Mod_take_61 rfl rfl (by omega) (Nat.le_of_ble_eq_true rfl) (by dsimp only [List.set]) ?_
      refine zi_iincN (ls' := _ :: some _ :: _) O 1 d_Mod_take_62 rfl (by decide) rfl (by decide) rfl ?_
      refine zi_goto O 44 d_Mod_take_65 (by decide) ?_
      refine ih2 (i2 + 1, upd B i2 (L i2)) ⟨by dsimp only; omega, fun q hq => ?_⟩ (by dsimp only; omega)
      dsimp only at hq ⊢
      by_cases c : q = i2
      · rw [c, pk_us]
      · rw [pk_un c]; exact hB q (by omega)
  · refine zi_aload_n O d_Mod_take_24 rfl ?_
    refine zi_get O f_Mod_26 d_Mod_take_25 rfl rfl ?_
    refine zi_iload_n O d_Mod_take_28 rfl ?_
    refine zi_aload_n O d_Mod_take_29 rfl ?_
    refine zi_get O f_Mod_20 d_Mod_take_30 rfl rfl ?_
    refine zi_iload_n O d_Mod_take_33 rfl ?_
    refine zi_iald O d_Mod_take_34 rfl rfl (by omega) (Nat.le_of_ble_eq_true rfl) ?_
    refine zi_iast O d_Mod_take_35 rfl rfl (by omega) (Nat.le_of_ble_eq_true rfl) (by dsimp only [List.set]) ?_
    refine zi_iincN (ls' := _ :: some _ :: _) O 1 d_Mod_take_36 rfl (by decide) rfl (by decide) rfl ?_
    refine zi_goto O 18 d_Mod_take_39 (by decide) ?_
    refine ih (i + 1, upd A i (S i)) ⟨by dsimp only; omega, fun q hq => ?_⟩ (by dsimp only; omega)
    dsimp only at hq ⊢
    by_cases c : q = i
    · rw [c, pk_us]
    · rw [pk_un c]; exact hA q (by omega)
set_option maxHeartbeats 1000000 in
theorem m_Mod_back : zMet y_Mod_back b_Mod_back 2 none ⟨0, 0, 0, 0⟩ [.ref 0] (mh put wrong pS pL n ci oN oC S L oS oL labs row fresh piece closed faces comp fof sides side free arnd)
    (fun r h' => r = none ∧ ∃ (S' L' : Nat → Int32), h' = (mh put wrong pS pL oN oC oN oC S' L' oS oL labs row fresh piece closed faces comp fof sides side free arnd) ∧ (∀ c, c < 20 → S' c = oS c) ∧ (∀ q, q < 80 → L' q = oL q)) := by
  refine zMet_of (plainFor_of_name (by decide +kernel)) rfl (Nat.le_of_ble_eq_true rfl) (fun z1 z2 z3 z4 z5 z6 z7 z8 z9 z10 z11 z12 z13 z14 O hin => ?_)
  refine zi_ls (ls' := [some (.ref 0), none]) rfl ?_
  refine zi_aload_n O d_Mod_back_0 rfl ?_
  refine zi_aload_n O d_Mod_back_1 rfl ?_
  refine zi_get O f_Mod_101 d_Mod_back_2 rfl rfl ?_
  refine zi_put O f_Mod_59 d_Mod_back_5 rfl (Nat.le_of_ble_eq_true rfl) (fun _ => rfl) (fun _ => rfl) (by dsimp only [List.set]) ?_
  refine zi_aload_n O d_Mod_back_8 rfl ?_
  refine zi_aload_n O d_Mod_back_9 rfl ?_
  refine zi_get O f_Mod_107 d_Mod_back_10 rfl rfl ?_
  refine zi_put O f_Mod_104 d_Mod_back_13 rfl (Nat.le_of_ble_eq_true rfl) (fun _ => rfl) (fun _ => rfl) (by dsimp only [List.set]) ?_
  refine zi_iconstN O 0 d_Mod_back_16 (by decide) ?_
  refine zi_istore_n (ls' := _ :: some _ :: _) O d_Mod_back_17 rfl (by decide) rfl ?_
  refine zi_loop (σ := Nat × (Nat → Int32)) (fun x => [some (.ref 0), some (.int (nI x.1))]) (fun x => (mh put wrong pS pL oN oC oN oC (x.2) L oS oL labs row fresh piece closed faces comp fof sides side free arnd)) (fun x => x.1 ≤ 20 ∧ ∀ q, q < x.1 → x.2 q = oS q) (fun x => 20 - x.1) (0, S) rfl rfl ⟨Nat.zero_le _, fun q hq => absurd hq (Nat.not_lt_zero q)⟩ ?_
  rintro ⟨i, A⟩ ⟨hi, hA⟩ ih
  dsimp only at hi hA ih ⊢
  refine zi_iload_n O d_Mod_back_18 rfl ?_
  refine zi_bipushN O 20 d_Mod_back_19 (by decide) ?_
  refine zi_icmp_geN O 42 d_Mod_back_21 (by decide) (by omega) (by omega) (fun c21 => ?_) (fun c21 => ?_)
  · refine zi_iconstN O 0 d_Mod_back_42 (by decide) ?_
    refine zi_istore_n (ls' := _ :: some _ :: _) O d_Mod_back_43 rfl (by decide) rfl ?_
    refine zi_loop (σ := Nat × (Nat → Int32)) (fun x => [some (.ref 0), some (.int (nI x.1))]) (fun x => (mh put wrong pS pL oN oC oN oC A (x.2) oS oL labs row fresh piece closed faces comp fof sides side free arnd)) (fun x => x.1 ≤ 80 ∧ ∀ q, q < x.1 → x.2 q = oL q) (fun x => 80 - x.1) (0, L) rfl rfl ⟨Nat.zero_le _, fun q hq => absurd hq (Nat.not_lt_zero q)⟩ ?_
    rintro ⟨i2, B⟩ ⟨hi2, hB⟩ ih2
    dsimp only at hi2 hB ih2 ⊢
    refine zi_iload_n O d_Mod_back_44 rfl ?_
    refine zi_bipushN O 80 d_Mod_back_45 (by decide) ?_
    refine zi_icmp_geN O 68 d_Mod_back_47 (by decide) (by omega) (by omega) (fun c47 => ?_) (fun c47 => ?_)
    · refine zi_vret O d_Mod_back_68 (Nat.le_of_ble_eq_true rfl) (Nat.le_of_ble_eq_true rfl) (Nat.le_of_ble_eq_true rfl) ?_
      exact ⟨rfl, A, B, rfl, fun c hc => hA c (by omega), fun q hq => hB q (by omega)⟩
    · refine zi_aload_n O d_Mod_back_50 rfl ?_
      refine zi_get O f_Mod_23 d_Mod_back_51 rfl rfl ?_
      refine zi_iload_n O d_Mod_back_54 rfl ?_
      refine zi_aload_n O d_Mod_back_55 rfl ?_
      refine zi_get O f_Mod_29 d_Mod_back_56 rfl rfl ?_
      refine zi_iload_n O d_Mod_back_59 rfl ?_
      refine zi_iald O d_Mod_back_60 rfl rfl (by omega) (Nat.le_of_ble_eq_true rfl) ?_
      refine zi_iast O d_Mod_back_61 rfl rfl (by omega) (Nat.le_of_ble_eq_true rfl) (by dsimp only [List.set]) ?_
      refine zi_iincN (ls' := _ :: some _ :: _) O 1 d_Mod_back_62 rfl (by decide) rfl (by decide) rfl ?_
      refine zi_goto O 44 d_Mod_back_65 (by decide) ?_
      refine ih2 (i2 + 1, upd B i2 (oL i2)) ⟨by dsimp only; omega, fun q hq => ?_⟩ (by dsimp only; omega)
      dsimp only at hq ⊢
      by_cases c : q = i2
      · rw [c, pk_us]
      · rw [pk_un c]; exact hB q (by omega)
  · refine zi_aload_n O d_Mod_back_24 rfl ?_
    refine zi_get O f_Mod_20 d_Mod_back_25 rfl rfl ?_
    refine zi_iload_n O d_Mod_back_28 rfl ?_
    refine zi_aload_n O d_Mod_back_29 rfl ?_
    refine zi_get O f_Mod_26 d_Mod_back_30 rfl rfl ?_
    refine zi_iload_n O d_Mod_back_33 rfl ?_
    refine zi_iald O d_Mod_back_34 rfl rfl (by omega) (Nat.le_of_ble_eq_true rfl) ?_
    refine zi_iast O d_Mod_back_35 rfl rfl (by omega) (Nat.le_of_ble_eq_true rfl) (by dsimp only [List.set]) ?_
    refine zi_iincN (ls' := _ :: some _ :: _) O 1 d_Mod_back_36 rfl (by decide) rfl (by decide) rfl ?_
    refine zi_goto O 18 d_Mod_back_39 (by decide) ?_
    refine ih (i + 1, upd A i (oS i)) ⟨by dsimp only; omega, fun q hq => ?_⟩ (by dsimp only; omega)
    dsimp only at hq ⊢
    by_cases c : q = i
    · rw [c, pk_us]
    · rw [pk_un c]; exact hA q (by omega)
end
section
variable {k n : Nat} {plab lab : Nat → Nat} {T S0 : Nat → Int32} {ci : Int32} {h : List zE}
theorem m_Mod_check_no (hM : Mdl k plab T n lab S0 ci h) (x : Int32) (hx : x < 0 ∨ nI 20 < x) : zPu y_Mod_check b_Mod_check 3 (some .int) ⟨6, 0, 0, 170⟩ [.ref 0, .int x] h (.int (-1)) := by
  obtain ⟨wrong, pS, pL, oN, oC, S, L, oS, oL, labs, row, fresh, piece, closed, faces, comp, fof, sides, side, free, arnd, rfl, hR, hS, hG, hPR, hPS, hPG⟩ := hM
  refine zMet_of (plainFor_of_name (by decide +kernel)) rfl (Nat.le_of_ble_eq_true rfl) (fun z1 z2 z3 z4 z5 z6 z7 z8 z9 z10 z11 z12 z13 z14 O hin => ?_)
  refine zi_ls (ls' := [some (.ref 0), some (.int x), none]) rfl ?_
  refine zi_iload_n O d_Mod_check_0 rfl ?_
  refine zi_if_lt O 10 d_Mod_check_1 (by decide) (fun c1 => ?_) (fun c1 => ?_)
  · refine zi_iconst (v := -1) O d_Mod_check_10 (by decide) ?_
    refine zi_iret O d_Mod_check_11 (Nat.le_of_ble_eq_true rfl) (Nat.le_of_ble_eq_true rfl) (Nat.le_of_ble_eq_true rfl) ?_
    exact ⟨rfl, rfl⟩
  · refine zi_iload_n O d_Mod_check_4 rfl ?_
    refine zi_bipushN O 20 d_Mod_check_5 (by decide) ?_
    refine zi_icmp_le O 12 d_Mod_check_7 (by decide) (fun c7 => ?_) (fun c7 => ?_)
    · rcases hx with z | z
      · exact absurd z c1
      · exact absurd c7 (Int32.not_le.mpr z)
    · refine zi_iconst (v := -1) O d_Mod_check_10 (by decide) ?_
      refine zi_iret O d_Mod_check_11 (Nat.le_of_ble_eq_true rfl) (Nat.le_of_ble_eq_true rfl) (Nat.le_of_ble_eq_true rfl) ?_
      exact ⟨rfl, rfl⟩
set_option maxHeartbeats 1000000 in
theorem m_Mod_check {f : Nat} (hM : Mdl k plab T n lab S0 ci h) (hf : f ≤ 3) (hF : FQ k plab T f) (x : Int32) (hx : ¬ (x < 0 ∨ nI 20 < x)) : zMet y_Mod_check b_Mod_check 3 (some .int) ⟨6, 0, 0, 170⟩ [.ref 0, .int x] h
    (fun r h' => r = some (.int (nI f)) ∧ (f ≠ 0 → Mdl 0 plab T n lab S0 ci h') ∧ (f = 0 → Mdl 0 plab T k plab T x h')) := by
  obtain ⟨wrong, pS, pL, oN, oC, S, L, oS, oL, labs, row, fresh, piece, closed, faces, comp, fof, sides, side, free, arnd, rfl, hR, hS, hG, hPR, hPS, hPG⟩ := hM
  have h0R : RowOK 0 pL plab := ⟨by omega, fun q hq => absurd hq (Nat.not_lt_zero q)⟩
  refine zMet_of (plainFor_of_name (by decide +kernel)) rfl (Nat.le_of_ble_eq_true rfl) (fun z1 z2 z3 z4 z5 z6 z7 z8 z9 z10 z11 z12 z13 z14 O hin => ?_)
  refine zi_ls (ls' := [some (.ref 0), some (.int x), none]) rfl ?_
  refine zi_iload_n O d_Mod_check_0 rfl ?_
  refine zi_if_lt O 10 d_Mod_check_1 (by decide) (fun c1 => ?_) (fun c1 => ?_)
  · exact absurd (Or.inl c1) hx
  · refine zi_iload_n O d_Mod_check_4 rfl ?_
    refine zi_bipushN O 20 d_Mod_check_5 (by decide) ?_
    refine zi_icmp_le O 12 d_Mod_check_7 (by decide) (fun c7 => ?_) (fun c7 => ?_)
    · refine zi_aload_n O d_Mod_check_12 rfl ?_
      refine zi_selfV O c_Mod_124 k_Mod_take (m_Mod_take hPR.1) d_Mod_check_13 ⟨(Nat.le_of_ble_eq_true rfl), (Nat.le_of_ble_eq_true rfl)⟩ ⟨(Nat.le_of_ble_eq_true rfl), (Nat.le_of_ble_eq_true rfl)⟩ rfl rfl (Nat.le_of_ble_eq_true rfl) rfl rfl rfl (Nat.le_of_ble_eq_true rfl) rfl (fun r h' hq hl => ?_)
      obtain ⟨rfl, oS', oL', S', L', rfl, t1, t2, t3, t4⟩ := hq
      have hR' : RowOK k L' plab := ⟨hPR.1, fun q hq => by rw [t4 q hq]; exact hPR.2 q hq⟩
      have hS' : ∀ c, c < k → S' c = T c := fun c hc => by rw [t3 c hc]; exact hPS c hc
      refine zi_st (st' := []) rfl ?_
      refine zi_aload_n O d_Mod_check_16 rfl ?_
      refine zi_iload_n O d_Mod_check_17 rfl ?_
      refine zi_put O f_Mod_104 d_Mod_check_18 rfl (Nat.le_of_ble_eq_true rfl) (fun _ => rfl) (fun _ => rfl) (by dsimp only [List.set]) ?_
      refine zi_aload_n O d_Mod_check_21 rfl ?_
      refine zi_selfV O c_Mod_127 k_Mod_fault (m_Mod_fault hR' (sg_same hPG hS') (fq_same hF hS')) d_Mod_check_22 ⟨(Nat.le_of_ble_eq_true rfl), (Nat.le_of_ble_eq_true rfl)⟩ ⟨(Nat.le_of_ble_eq_true rfl), (Nat.le_of_ble_eq_true rfl)⟩ rfl rfl (Nat.le_of_ble_eq_true rfl) rfl rfl rfl (Nat.le_of_ble_eq_true rfl) rfl (fun r h' hq hl => ?_)
      obtain ⟨rfl, wrong', m, faces', row', fof', piece', rfl⟩ := hq
      refine zi_st (st' := [.int (nI f)]) rfl ?_
      refine zi_istore_n (ls' := _ :: _ :: some _ :: _) O d_Mod_check_25 rfl (by decide) rfl ?_
      refine zi_iload_n O d_Mod_check_26 rfl ?_
      refine zi_if_le O 34 d_Mod_check_27 (by decide) (fun c27 => ?_) (fun c27 => ?_)
      · have hf0 : f = 0 := by
          rcases Nat.eq_zero_or_pos f with z | z
          · exact z
          · exact absurd c27 (nI_nle z (by omega))
        subst hf0
        refine zi_iload_n O d_Mod_check_34 rfl ?_
        refine zi_iret O d_Mod_check_35 (Nat.le_of_ble_eq_true rfl) (Nat.le_of_ble_eq_true rfl) (Nat.le_of_ble_eq_true rfl) ?_
        exact ⟨rfl, fun z => absurd rfl z, fun _ => ⟨_, _, _, _, _, _, _, _, _, _, _, _, _, _, _, _, _, _, _, _, _, rfl, hR', hS', hPG, h0R, fun c hc => absurd hc (Nat.not_lt_zero c), fun c hc => absurd hc (Nat.not_lt_zero c)⟩⟩
      · have hf0 : f ≠ 0 := fun z => c27 (by rw [z]; decide)
        refine zi_aload_n O d_Mod_check_30 rfl ?_
        refine zi_selfV O c_Mod_130 k_Mod_back m_Mod_back d_Mod_check_31 ⟨(Nat.le_of_ble_eq_true rfl), (Nat.le_of_ble_eq_true rfl)⟩ ⟨(Nat.le_of_ble_eq_true rfl), (Nat.le_of_ble_eq_true rfl)⟩ rfl rfl (Nat.le_of_ble_eq_true rfl) rfl rfl rfl (Nat.le_of_ble_eq_true rfl) rfl (fun r h' hq hl => ?_)
        obtain ⟨rfl, S2, L2, rfl, b1, b2⟩ := hq
        refine zi_st (st' := []) rfl ?_
        refine zi_iload_n O d_Mod_check_34 rfl ?_
        refine zi_iret O d_Mod_check_35 (Nat.le_of_ble_eq_true rfl) (Nat.le_of_ble_eq_true rfl) (Nat.le_of_ble_eq_true rfl) ?_
        have hn := hR.1
        exact ⟨rfl, fun _ => ⟨_, _, _, _, _, _, _, _, _, _, _, _, _, _, _, _, _, _, _, _, _, rfl, ⟨hR.1, fun q hq => by rw [b2 q (by omega), t2 q (by omega)]; exact hR.2 q hq⟩, fun c hc => by rw [b1 c (by omega), t1 c (by omega)]; exact hS c hc, hG, h0R, fun c hc => absurd hc (Nat.not_lt_zero c), fun c hc => absurd hc (Nat.not_lt_zero c)⟩, fun z => absurd z hf0⟩
    · exact absurd (Or.inr (Int32.not_le.mp c7)) hx
end
