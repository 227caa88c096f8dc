/-! what a row of crossings is: (1), (2), its edges; Edges.find -/
def C1 (n : Nat) (lab : Nat → Nat) : Prop := ∀ q, q < 4 * n → ∃ r, r < 4 * n ∧ r ≠ q ∧ lab r = lab q ∧ ∀ t, t < 4 * n → lab t = lab q → t = q ∨ t = r
def C2 (n : Nat) (lab : Nat → Nat) (S : Nat → Int32) : Prop := ∀ q r, q < 4 * n → r < 4 * n → q ≠ r → lab q = lab r → ¬ (gi S q ↔ gi S r)
def Ed (n : Nat) (lab : Nat → Nat) (S : Nat → Int32) (el fr to_ at_ : Nat → Nat) : Prop :=
  (∀ e, e < 2 * n → fr e < 4 * n ∧ to_ e < 4 * n ∧ lab (fr e) = el e ∧ lab (to_ e) = el e ∧ ¬ gi S (fr e) ∧ gi S (to_ e)) ∧ (∀ i j, i < j → j < 2 * n → el i < el j) ∧ ∀ q, q < 4 * n → at_ q < 2 * n ∧ (q = fr (at_ q) ∨ q = to_ (at_ q))
theorem sortP_mono {k : Nat} {lab P : Nat → Nat} (h : SortP k lab P) : ∀ d i, i + d < k → lab (P i) ≤ lab (P (i + d)) := by
  intro d
  induction d with
  | zero => intro i _; exact Nat.le_refl _
  | succ d ih => intro i hi; exact Nat.le_trans (ih i (by omega)) (h.2.2.1 (i + d) (by omega))
theorem sortP_le {k : Nat} {lab P : Nat → Nat} (h : SortP k lab P) {i j : Nat} (hij : i ≤ j) (hj : j < k) : lab (P i) ≤ lab (P j) := by
  have := sortP_mono h (j - i) i (by omega)
  rw [show i + (j - i) = j by omega] at this
  exact this
theorem twoP_lt {n : Nat} {lab P : Nat → Nat} (hS : SortP (4 * n) lab P) (hT : TwoP (2 * n) lab P) {i j : Nat} (hij : i < j) (hj : j < 2 * n) : lab (P (2 * i)) < lab (P (2 * j)) := by
  have h1 := (hT j hj).2 (by omega)
  have h2 := sortP_le hS (i := 2 * j - 2) (j := 2 * j) (by omega) (by omega)
  have h3 := sortP_le hS (i := 2 * i) (j := 2 * j - 2) (by omega) (by omega)
  omega
theorem twoP_iff {n : Nat} {lab P : Nat → Nat} (hS : SortP (4 * n) lab P) : TwoP (2 * n) lab P ↔ C1 n lab := by
  constructor
  · intro hT q hq
    obtain ⟨j, hj, rfl⟩ := hS.2.2.2 q hq
    obtain ⟨i, hi⟩ : ∃ i, j = 2 * i ∨ j = 2 * i + 1 := ⟨j / 2, by omega⟩
    have hin : i < 2 * n := by omega
    have hl : lab (P j) = lab (P (2 * i)) := by
      rcases hi with rfl | rfl
      · rfl
      · exact (hT i hin).1.symm
    refine ⟨P (2 * i + (if j = 2 * i then 1 else 0)), hS.1 _ (by split <;> omega), fun z => ?_, ?_, fun t ht hlt => ?_⟩
    · have := hS.2.1 _ _ (by split <;> omega) hj z
      split at this <;> omega
    · rw [hl]
      split
      · exact (hT i hin).1.symm
      · rfl
    · obtain ⟨j2, hj2, rfl⟩ := hS.2.2.2 t ht
      obtain ⟨i2, hi2⟩ : ∃ i2, j2 = 2 * i2 ∨ j2 = 2 * i2 + 1 := ⟨j2 / 2, by omega⟩
      have hl2 : lab (P j2) = lab (P (2 * i2)) := by
        rcases hi2 with rfl | rfl
        · rfl
        · exact (hT i2 (by omega)).1.symm
      have : i2 = i := by
        rcases Nat.lt_trichotomy i2 i with c | c | c
        · have := twoP_lt hS hT c hin; omega
        · exact c
        · have := twoP_lt hS hT c (by omega); omega
      subst this
      by_cases c : j2 = j
      · exact Or.inl (by rw [c])
      · refine Or.inr ?_
        congr 1
        split <;> omega
  · intro hC
    have key : ∀ i, i ≤ 2 * n → TwoP i lab P := by
      intro i
      induction i with
      | zero => intro _ e he; exact absurd he (Nat.not_lt_zero e)
      | succ i ih =>
        intro hi
        have hT := ih (by omega)
        have hne : 0 < i → ¬ lab (P (2 * i)) = lab (P (2 * i - 2)) := by
          intro h0 hz
          have h1 := (hT (i - 1) (by omega)).1
          rw [show 2 * (i - 1) = 2 * i - 2 by omega, show 2 * i - 2 + 1 = 2 * i - 1 by omega] at h1
          obtain ⟨r, r1, r2, r3, r4⟩ := hC (P (2 * i)) (hS.1 _ (by omega))
          have a1 := r4 (P (2 * i - 2)) (hS.1 _ (by omega)) hz.symm
          have a2 := r4 (P (2 * i - 1)) (hS.1 _ (by omega)) (by omega)
          have b1 : P (2 * i - 2) ≠ P (2 * i) := fun z => by have := hS.2.1 _ _ (by omega) (by omega) z; omega
          have b2 : P (2 * i - 1) ≠ P (2 * i) := fun z => by have := hS.2.1 _ _ (by omega) (by omega) z; omega
          have b3 : P (2 * i - 2) ≠ P (2 * i - 1) := fun z => by have := hS.2.1 _ _ (by omega) (by omega) z; omega
          rcases a1 with a1 | a1
          · exact b1 a1
          · rcases a2 with a2 | a2
            · exact b2 a2
            · exact b3 (a1.trans a2.symm)
        have heq : lab (P (2 * i)) = lab (P (2 * i + 1)) := by
          obtain ⟨r, r1, r2, r3, r4⟩ := hC (P (2 * i)) (hS.1 _ (by omega))
          obtain ⟨j, hj, rfl⟩ := hS.2.2.2 r r1
          have hji : j ≠ 2 * i := fun z => r2 (by rw [z])
          by_cases c : 2 * i < j
          · have a1 := sortP_le hS (i := 2 * i) (j := 2 * i + 1) (by omega) (by omega)
            have a2 := sortP_le hS (i := 2 * i + 1) (j := j) (by omega) hj
            omega
          · exfalso
            have h0 : 0 < i := by omega
            have h1 := (hT (i - 1) (by omega)).1
            rw [show 2 * (i - 1) = 2 * i - 2 by omega, show 2 * i - 2 + 1 = 2 * i - 1 by omega] at h1
            have a1 := sortP_le hS (i := j) (j := 2 * i - 1) (by omega) (by omega)
            have a2 := sortP_le hS (i := 2 * i - 1) (j := 2 * i) (by omega) (by omega)
            exact hne h0 (by omega)
        intro e he
        by_cases c : e = i
        · rw [c]; exact ⟨heq, hne⟩
        · exact hT e (by omega)
    exact key (2 * n) (Nat.le_refl _)
theorem kindP_iff {n : Nat} {lab P : Nat → Nat} {S : Nat → Int32} (hS : SortP (4 * n) lab P) (hT : TwoP (2 * n) lab P) : KindP (2 * n) S P ↔ C2 n lab S := by
  constructor
  · intro hK q r hq hr hne hl
    obtain ⟨j, hj, rfl⟩ := hS.2.2.2 q hq
    obtain ⟨j2, hj2, rfl⟩ := hS.2.2.2 r hr
    have hjj : j ≠ j2 := fun z => hne (by rw [z])
    obtain ⟨i, hi⟩ : ∃ i, j = 2 * i ∨ j = 2 * i + 1 := ⟨j / 2, by omega⟩
    obtain ⟨i2, hi2⟩ : ∃ i2, j2 = 2 * i2 ∨ j2 = 2 * i2 + 1 := ⟨j2 / 2, by omega⟩
    have hl1 : lab (P j) = lab (P (2 * i)) := by
      rcases hi with rfl | rfl
      · rfl
      · exact (hT i (by omega)).1.symm
    have hl2 : lab (P j2) = lab (P (2 * i2)) := by
      rcases hi2 with rfl | rfl
      · rfl
      · exact (hT i2 (by omega)).1.symm
    have : i2 = i := by
      rcases Nat.lt_trichotomy i2 i with c | c | c
      · have := twoP_lt hS hT c (by omega); omega
      · exact c
      · have := twoP_lt hS hT c (by omega); omega
    subst this
    have hk := hK i2 (by omega)
    rcases hi with rfl | rfl <;> rcases hi2 with rfl | rfl
    · exact absurd rfl hjj
    · exact hk
    · exact fun z => hk z.symm
    · exact absurd rfl hjj
  · intro hC e he
    exact hC _ _ (hS.1 _ (by omega)) (hS.1 _ (by omega)) (fun z => by have := hS.2.1 _ _ (by omega) (by omega) z; omega) (hT e he).1
theorem pairP_ed {n : Nat} {lab P : Nat → Nat} {S LB FR TO AT : Nat → Int32} (hn : n ≤ 20) (hS : SortP (4 * n) lab P) (hT : TwoP (2 * n) lab P) (hK : KindP (2 * n) S P) (hE : PairP (2 * n) S lab P LB FR TO AT) :
    ∃ el fr to_ at_ : Nat → Nat, Ed n lab S el fr to_ at_ ∧ (∀ e, e < 2 * n → LB e = nI (el e) ∧ FR e = nI (fr e) ∧ TO e = nI (to_ e)) ∧ ∀ q, q < 4 * n → AT q = nI (at_ q) := by
  have hat : ∀ q, q < 4 * n → ∃ e, e < 2 * n ∧ (q = P (2 * e) ∨ q = P (2 * e + 1)) := by
    intro q hq
    obtain ⟨j, hj, rfl⟩ := hS.2.2.2 q hq
    refine ⟨j / 2, by omega, ?_⟩
    by_cases c : j % 2 = 0
    · left; congr 1; omega
    · right; congr 1; omega
  obtain ⟨at_, hat⟩ : ∃ at_ : Nat → Nat, ∀ q, q < 4 * n → at_ q < 2 * n ∧ (q = P (2 * at_ q) ∨ q = P (2 * at_ q + 1)) := by
    refine ⟨fun q => if h : q < 4 * n then Classical.choose (hat q h) else 0, fun q hq => ?_⟩
    dsimp only
    rw [dif_pos hq]
    exact Classical.choose_spec (hat q hq)
  refine ⟨fun e => lab (P (2 * e)), fun e => if gi S (P (2 * e)) then P (2 * e + 1) else P (2 * e), fun e => if gi S (P (2 * e)) then P (2 * e) else P (2 * e + 1), at_, ⟨fun e he => ?_, fun i j hij hj => twoP_lt hS hT hij hj, fun q hq => ?_⟩, fun e he => ?_, fun q hq => ?_⟩
  · dsimp only
    have hk := hK e he
    have h1 := hS.1 (2 * e) (by omega)
    have h2 := hS.1 (2 * e + 1) (by omega)
    have h3 := (hT e he).1
    by_cases c : gi S (P (2 * e))
    · rw [if_pos c, if_pos c]
      exact ⟨h2, h1, h3.symm, rfl, fun z => hk ⟨fun _ => z, fun _ => c⟩, c⟩
    · rw [if_neg c, if_neg c]
      refine ⟨h1, h2, rfl, h3.symm, c, ?_⟩
      by_cases c2 : gi S (P (2 * e + 1))
      · exact c2
      · exact absurd ⟨fun z => absurd z c, fun z => absurd z c2⟩ hk
  · obtain ⟨a1, a2⟩ := hat q hq
    refine ⟨a1, ?_⟩
    dsimp only
    by_cases c : gi S (P (2 * at_ q))
    · rw [if_pos c, if_pos c]; exact a2.symm
    · rw [if_neg c, if_neg c]; exact a2
  · obtain ⟨e1, e2, e3, -, -⟩ := hE e he
    exact ⟨e3, e1, e2⟩
  · obtain ⟨a1, a2⟩ := hat q hq
    obtain ⟨-, -, -, e4, e5⟩ := hE (at_ q) a1
    rcases a2 with a2 | a2
    · rw [← a2] at e4; exact e4
    · rw [← a2] at e5; exact e5
/-- what the edges' arrays hold -/
def EdA (n : Nat) (el fr to_ at_ : Nat → Nat) (LB FR TO AT : Nat → Int32) : Prop := (∀ e, e < 2 * n → LB e = nI (el e) ∧ FR e = nI (fr e) ∧ TO e = nI (to_ e)) ∧ ∀ q, q < 4 * n → AT q = nI (at_ q)
theorem m_Edg_find (m : Nat) (PL LB FR TO AT : Nat → Int32) (n : Nat) (L S : Nat → Int32) (lab : Nat → Nat) (hR : RowOK n L lab) : zMet y_Edg_find b_Edg_find 2 (some .int) ⟨3, 0, 0, 80⟩ [.ref 0, .ref 6] (erH m PL LB FR TO AT n L S)
    (fun r h' => ∃ (m' : Nat) (PL' LB' FR' TO' AT' : Nat → Int32), h' = erH m' PL' LB' FR' TO' AT' n L S ∧ ((r = some (.int (nI 1)) ∧ ¬ C1 n lab) ∨ (r = some (.int (nI 2)) ∧ C1 n lab ∧ ¬ C2 n lab S) ∨ (r = some (.int (nI 0)) ∧ C1 n lab ∧ C2 n lab S ∧ m' = 2 * n ∧ ∃ el fr to_ at_ : Nat → Nat, Ed n lab S el fr to_ at_ ∧ EdA n el fr to_ at_ LB' FR' TO' AT'))) := by
  refine zMet_of (plainFor_of_name (by decide +kernel)) rfl (Nat.le_of_ble_eq_true rfl) (fun z1 z2 z3 z4 z5 z6 z7 z8 z9 z10 z11 z12 z13 z14 O hin => ?_)
  refine zi_ls (ls' := [some (.ref 0), some (.ref 6)]) rfl ?_
  refine zi_aload_n O d_Edg_find_0 rfl ?_
  refine zi_aload_n O d_Edg_find_1 rfl ?_
  refine zi_callV O [0, 1, 2, 3, 4, 5, 6, 7, 8] c_Edg_27 k_Edg_sortPlaces (m_Edg_sortPlaces m PL LB FR TO AT n L S lab hR) d_Edg_find_2 ⟨(Nat.le_of_ble_eq_true rfl), (Nat.le_of_ble_eq_true rfl)⟩ ⟨(Nat.le_of_ble_eq_true rfl), (Nat.le_of_ble_eq_true rfl)⟩ rfl rfl (Nat.le_of_ble_eq_true rfl) rfl rfl rfl rfl rfl (Nat.le_of_ble_eq_true rfl) rfl (fun r h' hq hl => ?_)
  obtain ⟨rfl, PL', P, rfl, hP, hS⟩ := hq
  refine zi_st (st' := []) rfl (zi_h (h' := erH m PL' LB FR TO AT n L S) rfl ?_)
  refine zi_aload_n O d_Edg_find_5 rfl ?_
  refine zi_aload_n O d_Edg_find_6 rfl ?_
  refine zi_callV O [0, 1, 2, 3, 4, 5, 6, 7, 8] c_Edg_31 k_Edg_everyLabelStandsTwice (m_Edg_everyLabelStandsTwice m PL' LB FR TO AT n L S lab P hR hP hS) d_Edg_find_7 ⟨(Nat.le_of_ble_eq_true rfl), (Nat.le_of_ble_eq_true rfl)⟩ ⟨(Nat.le_of_ble_eq_true rfl), (Nat.le_of_ble_eq_true rfl)⟩ rfl rfl (Nat.le_of_ble_eq_true rfl) rfl rfl rfl rfl rfl (Nat.le_of_ble_eq_true rfl) rfl (fun r h' hq hl => ?_)
  obtain ⟨rfl, hq⟩ := hq
  refine zi_h (h' := erH m PL' LB FR TO AT n L S) rfl ?_
  rcases hq with ⟨rfl, hT⟩ | ⟨rfl, hT⟩
  · refine zi_st (st' := [.int 1]) rfl ?_
    refine zi_if_ne O 15 d_Edg_find_10 (by decide) (fun c10 => ?_) (fun c10 => ?_)
    · refine zi_aload_n O d_Edg_find_15 rfl ?_
      refine zi_aload_n O d_Edg_find_16 rfl ?_
      refine zi_callV O [0, 1, 2, 3, 4, 5, 6, 7, 8] c_Edg_35 k_Edg_pairPlaces (m_Edg_pairPlaces m PL' LB FR TO AT n L S lab P hR hP hS) d_Edg_find_17 ⟨(Nat.le_of_ble_eq_true rfl), (Nat.le_of_ble_eq_true rfl)⟩ ⟨(Nat.le_of_ble_eq_true rfl), (Nat.le_of_ble_eq_true rfl)⟩ rfl rfl (Nat.le_of_ble_eq_true rfl) rfl rfl rfl rfl rfl (Nat.le_of_ble_eq_true rfl) rfl (fun r h' hq hl => ?_)
      obtain ⟨LB', FR', TO', AT', rfl, hq⟩ := hq
      refine zi_h (h' := erH (2 * n) PL' LB' FR' TO' AT' n L S) rfl ?_
      rcases hq with ⟨rfl, hK, hE⟩ | ⟨rfl, hK⟩
      · refine zi_st (st' := [.int 1]) rfl ?_
        refine zi_if_eq O 27 d_Edg_find_20 (by decide) (fun c20 => ?_) (fun c20 => ?_)
        · exact absurd c20 (by decide)
        · refine zi_iconstN O 0 d_Edg_find_23 (by decide) ?_
          refine zi_goto O 28 d_Edg_find_24 (by decide) ?_
          refine zi_iret O d_Edg_find_28 (Nat.le_of_ble_eq_true rfl) (Nat.le_of_ble_eq_true rfl) (Nat.le_of_ble_eq_true rfl) ?_
          obtain ⟨el, fr, to_, at_, q1, q2, q3⟩ := pairP_ed hR.1 hS hT hK hE
          exact ⟨2 * n, PL', LB', FR', TO', AT', rfl, Or.inr (Or.inr ⟨rfl, (twoP_iff hS).mp hT, (kindP_iff hS hT).mp hK, rfl, el, fr, to_, at_, q1, q2, q3⟩)⟩
      · refine zi_st (st' := [.int 0]) rfl ?_
        refine zi_if_eq O 27 d_Edg_find_20 (by decide) (fun c20 => ?_) (fun c20 => ?_)
        · refine zi_iconstN O 2 d_Edg_find_27 (by decide) ?_
          refine zi_iret O d_Edg_find_28 (Nat.le_of_ble_eq_true rfl) (Nat.le_of_ble_eq_true rfl) (Nat.le_of_ble_eq_true rfl) ?_
          exact ⟨2 * n, PL', LB', FR', TO', AT', rfl, Or.inr (Or.inl ⟨rfl, (twoP_iff hS).mp hT, fun z => hK ((kindP_iff hS hT).mpr z)⟩)⟩
        · exact absurd rfl c20
    · exact absurd c10 (by decide)
  · refine zi_st (st' := [.int 0]) rfl ?_
    refine zi_if_ne O 15 d_Edg_find_10 (by decide) (fun c10 => ?_) (fun c10 => ?_)
    · exact absurd rfl c10
    · refine zi_iconstN O 1 d_Edg_find_13 (by decide) ?_
      refine zi_iret O d_Edg_find_14 (Nat.le_of_ble_eq_true rfl) (Nat.le_of_ble_eq_true rfl) (Nat.le_of_ble_eq_true rfl) ?_
      exact ⟨m, PL', LB, FR, TO, AT, rfl, Or.inl ⟨rfl, fun z => hT ((twoP_iff hS).mpr z)⟩⟩
