/-! (1) and (2) behind TWIST and PUSH -/
theorem ed_fresh {n : Nat} {lab : Nat → Nat} {S : Nat → Int32} {el fr to_ at_ : Nat → Nat} (hE : Ed n lab S el fr to_ at_) (a : Nat) : ∀ q, q < 4 * n → lab q ≠ fN el a (2 * n) := by
  intro q hq
  have := fN_fresh hE.2.1 a (2 * n) (Nat.le_refl _) (at_ q) (hE.2.2 q hq).1
  rw [ed_lab hE hq] at this
  exact this
theorem vd_new {n : Nat} {lab : Nat → Nat} {S : Nat → Int32} (h : C1 n lab ∧ C2 n lab S) (sg : Int32) : Vd (fun q => q < 4 * n) (gi (upd S n sg)) lab := vd_congr (vd_iff.mp h) (fun _ => Iff.rfl) (fun q hq => gi_upd S sg hq) (fun _ _ => rfl)
theorem not_lt_p {S : Nat → Int32} {n m : Nat} (hm : n ≤ m) (b : Bool) : ¬ pI S m b < 4 * n ∧ ¬ pO S m b < 4 * n := by
  have h1 := pI_lt S m b
  have h2 := pO_lt S m b
  omega
/-- TWIST an edge -/
theorem val_twistEdge {n : Nat} {lab : Nat → Nat} {S : Nat → Int32} {el fr to_ at_ : Nat → Nat} (h : C1 n lab ∧ C2 n lab S) (hE : Ed n lab S el fr to_ at_) {e : Nat} (he : e < 2 * n) (ab : Bool) {sg : Int32} (hs : sg = nI 1 ∨ sg = -1) {u v : Nat} (hu : u = fN el 0 (2 * n)) (hv : v = fN el u (2 * n)) :
    C1 (n + 1) (cr (va_up lab (to_ e) v) n sg ab (!ab) (el e) u v (el e) u v) ∧ C2 (n + 1) (cr (va_up lab (to_ e) v) n sg ab (!ab) (el e) u v (el e) u v) (upd S n sg) := by
  have h0 := vd_new h sg
  obtain ⟨b1, b2, b3, b4, b5, b6⟩ := hE.1 e he
  have hcr := cr_at (lab := va_up lab (to_ e) v) (n := n) (S := S) hs ab (!ab) (el e) u v (el e) u v
  generalize cr (va_up lab (to_ e) v) n sg ab (!ab) (el e) u v (el e) u v = lf at hcr ⊢
  obtain ⟨k1, k2, k3, k4, k5⟩ := hcr
  obtain ⟨d1, d2, d3, d4, d5, d6⟩ := p_apart (upd S n sg) n
  have huv : u < v := by have := (fN_le el u (2 * n)).1; omega
  have fu : ∀ x, x < 4 * n → lab x ≠ u := fun x hx => by rw [hu]; exact ed_fresh hE 0 x hx
  have fv : ∀ x, x < 4 * n → lab x ≠ v := fun x hx => by rw [hv]; exact ed_fresh hE u x hx
  have gt : gi (upd S n sg) (to_ e) := (gi_upd S sg b2).mpr b6
  have l1 : ∀ x, x < 4 * n → x ≠ to_ e → lf x = lab x := fun x hx hne => by rw [k5 x hx, up_n hne]
  have l2 : lf (to_ e) = v := by rw [k5 _ b2, up_s]
  have n1 := fun b => not_lt_p (S := upd S n sg) (Nat.le_refl n) b
  apply vd_iff.mpr
  have key : Vd (fun x => x < 4 * n ∨ x = pI (upd S n sg) n ab ∨ x = pO (upd S n sg) n ab ∨ x = pI (upd S n sg) n (!ab) ∨ x = pO (upd S n sg) n (!ab)) (gi (upd S n sg)) lf := by
    cases ab
    · exact vd_ins2 h0 (r := to_ e) (i1 := pI (upd S n sg) n false) (o1 := pO (upd S n sg) n false) (i2 := pI (upd S n sg) n true) (o2 := pO (upd S n sg) n true) (u := u) (v := v) b2 gt (n1 _).1 (n1 _).2 (n1 _).1 (n1 _).2 (Ne.symm d1) (Ne.symm d3) (Ne.symm d2) (Ne.symm d4) d6 d5 (gi_pI _ _ _) (gi_pO _ _ _) (gi_pI _ _ _) (gi_pO _ _ _) fu fv (by omega) l1 l2 (by rw [k3, b4]; rfl) (by rw [k4]; rfl) (by rw [k1]; rfl) (by rw [k2]; rfl)
    · exact vd_ins2 h0 (r := to_ e) (i1 := pI (upd S n sg) n true) (o1 := pO (upd S n sg) n true) (i2 := pI (upd S n sg) n false) (o2 := pO (upd S n sg) n false) (u := u) (v := v) b2 gt (n1 _).1 (n1 _).2 (n1 _).1 (n1 _).2 d1 d2 d3 d4 d5 d6 (gi_pI _ _ _) (gi_pO _ _ _) (gi_pI _ _ _) (gi_pO _ _ _) fu fv (by omega) l1 l2 (by rw [k1, b4]; rfl) (by rw [k2]; rfl) (by rw [k3]; rfl) (by rw [k4]; rfl)
  refine vd_congr key (fun q => ?_) (fun _ _ => Iff.rfl) (fun _ _ => rfl)
  have i1 := pI_lt (upd S n sg) n ab
  have i2 := pO_lt (upd S n sg) n ab
  have i3 := pI_lt (upd S n sg) n (!ab)
  have i4 := pO_lt (upd S n sg) n (!ab)
  constructor
  · intro hq
    by_cases c : q < 4 * n
    · exact Or.inl c
    · have := p_all (upd S n sg) n q (by omega) (by omega)
      cases ab
      · rcases this with z | z | z | z
        · exact Or.inr (Or.inr (Or.inr (Or.inl z)))
        · exact Or.inr (Or.inr (Or.inr (Or.inr z)))
        · exact Or.inr (Or.inl z)
        · exact Or.inr (Or.inr (Or.inl z))
      · rcases this with z | z | z | z
        · exact Or.inr (Or.inl z)
        · exact Or.inr (Or.inr (Or.inl z))
        · exact Or.inr (Or.inr (Or.inr (Or.inl z)))
        · exact Or.inr (Or.inr (Or.inr (Or.inr z)))
  · rintro (z | z | z | z | z) <;> omega
/-- TWIST a circle -/
theorem val_twistCircle {n : Nat} {lab : Nat → Nat} {S : Nat → Int32} {el fr to_ at_ : Nat → Nat} (h : C1 n lab ∧ C2 n lab S) (hE : Ed n lab S el fr to_ at_) (ab : Bool) {sg : Int32} (hs : sg = nI 1 ∨ sg = -1) {u v : Nat} (hu : u = fN el 0 (2 * n)) (hv : v = fN el u (2 * n)) :
    C1 (n + 1) (cr lab n sg ab (!ab) v u v v u v) ∧ C2 (n + 1) (cr lab n sg ab (!ab) v u v v u v) (upd S n sg) := by
  have h0 := vd_new h sg
  have hcr := cr_at (lab := lab) (n := n) (S := S) hs ab (!ab) v u v v u v
  generalize cr lab n sg ab (!ab) v u v v u v = lf at hcr ⊢
  obtain ⟨k1, k2, k3, k4, k5⟩ := hcr
  obtain ⟨d1, d2, d3, d4, d5, d6⟩ := p_apart (upd S n sg) n
  have huv : u < v := by have := (fN_le el u (2 * n)).1; omega
  have fu : ∀ x, x < 4 * n → lab x ≠ u := fun x hx => by rw [hu]; exact ed_fresh hE 0 x hx
  have fv : ∀ x, x < 4 * n → lab x ≠ v := fun x hx => by rw [hv]; exact ed_fresh hE u x hx
  have n1 := fun b => not_lt_p (S := upd S n sg) (Nat.le_refl n) b
  apply vd_iff.mpr
  have key : ∀ b : Bool, lf (pI (upd S n sg) n b) = v → lf (pO (upd S n sg) n b) = u → lf (pI (upd S n sg) n (!b)) = u → lf (pO (upd S n sg) n (!b)) = v → Vd (fun x => (x < 4 * n ∨ x = pI (upd S n sg) n b ∨ x = pO (upd S n sg) n b) ∨ x = pI (upd S n sg) n (!b) ∨ x = pO (upd S n sg) n (!b)) (gi (upd S n sg)) lf := by
    intro b e1 e2 e3 e4
    have da : pI (upd S n sg) n b ≠ pO (upd S n sg) n b ∧ pI (upd S n sg) n (!b) ≠ pI (upd S n sg) n b ∧ pI (upd S n sg) n (!b) ≠ pO (upd S n sg) n b ∧ pO (upd S n sg) n (!b) ≠ pI (upd S n sg) n b ∧ pO (upd S n sg) n (!b) ≠ pO (upd S n sg) n b := by
      cases b
      · exact ⟨d6, d1, d2, d3, d4⟩
      · exact ⟨d5, Ne.symm d1, Ne.symm d3, Ne.symm d2, Ne.symm d4⟩
    obtain ⟨a1, a2, a3, a4, a5⟩ := da
    have s1 := vd_closed (lab' := va_up lf (pI (upd S n sg) n b) u) h0 (p := pI (upd S n sg) n b) (q := pO (upd S n sg) n b) (v := u) (n1 _).1 (n1 _).2 (gi_pI _ _ _) (gi_pO _ _ _) fu (fun x hx => by rw [up_n (fun z => (n1 b).1 (by rw [← z]; exact hx)), k5 x hx]) up_s (by rw [up_n (Ne.symm a1), e2])
    refine vd_ins s1 (r := pI (upd S n sg) n b) (p := pI (upd S n sg) n (!b)) (q := pO (upd S n sg) n (!b)) (v := v) (Or.inr (Or.inl rfl)) (gi_pI _ _ _) (fun z => z.elim (n1 _).1 (fun z => z.elim a2 a3)) (fun z => z.elim (n1 _).2 (fun z => z.elim a4 a5)) (gi_pI _ _ _) (gi_pO _ _ _) (fun x hx z => ?_) (fun x hx hxr => (up_n hxr).symm) e1 (by rw [e3, up_s]) e4
    rcases hx with hx | rfl | rfl
    · rw [up_n (fun y => (n1 b).1 (by rw [← y]; exact hx)), k5 x hx] at z; exact fv x hx z
    · rw [up_s] at z; omega
    · rw [up_n (Ne.symm a1), e2] at z; omega
  have fin : ∀ b : Bool, Vd (fun x => (x < 4 * n ∨ x = pI (upd S n sg) n b ∨ x = pO (upd S n sg) n b) ∨ x = pI (upd S n sg) n (!b) ∨ x = pO (upd S n sg) n (!b)) (gi (upd S n sg)) lf → Vd (fun q => q < 4 * (n + 1)) (gi (upd S n sg)) lf := by
    intro b hk
    refine vd_congr hk (fun q => ?_) (fun _ _ => Iff.rfl) (fun _ _ => rfl)
    have i1 := pI_lt (upd S n sg) n b
    have i2 := pO_lt (upd S n sg) n b
    have i3 := pI_lt (upd S n sg) n (!b)
    have i4 := pO_lt (upd S n sg) n (!b)
    constructor
    · intro hq
      by_cases c : q < 4 * n
      · exact Or.inl (Or.inl c)
      · have := p_all (upd S n sg) n q (by omega) (by omega)
        cases b
        · rcases this with z | z | z | z
          · exact Or.inr (Or.inl z)
          · exact Or.inr (Or.inr z)
          · exact Or.inl (Or.inr (Or.inl z))
          · exact Or.inl (Or.inr (Or.inr z))
        · rcases this with z | z | z | z
          · exact Or.inl (Or.inr (Or.inl z))
          · exact Or.inl (Or.inr (Or.inr z))
          · exact Or.inr (Or.inl z)
          · exact Or.inr (Or.inr z)
    · rintro ((z | z | z) | z | z) <;> omega
  cases ab
  · exact fin false (key false (by rw [k3]; rfl) (by rw [k4]; rfl) (by show lf (pI (upd S n sg) n true) = _; rw [k1]; rfl) (by show lf (pO (upd S n sg) n true) = _; rw [k2]; rfl))
  · exact fin true (key true (by rw [k1]; rfl) (by rw [k2]; rfl) (by show lf (pI (upd S n sg) n false) = _; rw [k3]; rfl) (by show lf (pO (upd S n sg) n false) = _; rw [k4]; rfl))
theorem pI_congr {S S' : Nat → Int32} {m : Nat} (h : S m = S' m) (b : Bool) : pI S m b = pI S' m b ∧ pO S m b = pO S' m b := by
  have : pI S m b = pI S' m b := by unfold pI uq up; rw [h]
  exact ⟨this, by unfold pO; rw [this]⟩
theorem phS_or (ov ax ay : Bool) : phS ov ax ay = nI 1 ∨ phS ov ax ay = -1 := by cases ov <;> cases ax <;> cases ay <;> decide
theorem phS_neg (ov ax ay : Bool) : -phS ov ax ay = nI 1 ∨ -phS ov ax ay = -1 := by cases ov <;> cases ax <;> cases ay <;> decide
/-- the labels at the two new crossings of a push -/
theorem ph_at {lab : Nat → Nat} {n : Nat} {S : Nat → Int32} (ov ax ay : Bool) (x1 x2 x3 y1 y2 y3 : Nat) {S2 : Nat → Int32} (hS : S2 = upd (upd S n (phS ov ax ay)) (n + 1) (-phS ov ax ay)) {lf : Nat → Nat} (hl : lf = phL ov ax ay lab n x1 x2 x3 y1 y2 y3) :
    (lf (pI S2 n ov) = (if ax then x1 else x2) ∧ lf (pO S2 n ov) = (if ax then x2 else x3) ∧ lf (pI S2 (n + 1) ov) = (if ax then x2 else x1) ∧ lf (pO S2 (n + 1) ov) = (if ax then x3 else x2)) ∧ (lf (pI S2 n (!ov)) = (if ay then y2 else y1) ∧ lf (pO S2 n (!ov)) = (if ay then y3 else y2) ∧ lf (pI S2 (n + 1) (!ov)) = (if ay then y1 else y2) ∧ lf (pO S2 (n + 1) (!ov)) = (if ay then y2 else y3)) ∧ ∀ q, q < 4 * n → lf q = lab q := by
  have e1 : ∀ b, pI S2 n b = pI (upd S n (phS ov ax ay)) n b ∧ pO S2 n b = pO (upd S n (phS ov ax ay)) n b := fun b => pI_congr (by rw [hS, pk_un (by omega)]) b
  have e2 : ∀ b, pI S2 (n + 1) b = pI (upd (upd S n (phS ov ax ay)) (n + 1) (-phS ov ax ay)) (n + 1) b ∧ pO S2 (n + 1) b = pO (upd (upd S n (phS ov ax ay)) (n + 1) (-phS ov ax ay)) (n + 1) b := fun b => by rw [hS]; exact ⟨rfl, rfl⟩
  have hI := fun b => pI_lt (upd S n (phS ov ax ay)) n b
  have hO := fun b => pO_lt (upd S n (phS ov ax ay)) n b
  have hs1 := phS_or ov ax ay
  have hs2 := phS_neg ov ax ay
  rw [(e1 ov).1, (e1 ov).2, (e1 (!ov)).1, (e1 (!ov)).2, (e2 ov).1, (e2 ov).2, (e2 (!ov)).1, (e2 (!ov)).2]
  cases ov
  · have hl2 : lf = cr (cr lab n (phS false ax ay) (!ay) ax y1 y2 y3 x1 x2 x3) (n + 1) (-phS false ax ay) ay (!ax) y1 y2 y3 x1 x2 x3 := hl
    obtain ⟨a1, a2, a3, a4, a5⟩ := cr_at (lab := lab) (n := n) (S := S) hs1 (!ay) ax y1 y2 y3 x1 x2 x3
    obtain ⟨c1, c2, c3, c4, c5⟩ := cr_at (lab := cr lab n (phS false ax ay) (!ay) ax y1 y2 y3 x1 x2 x3) (n := n + 1) (S := upd S n (phS false ax ay)) hs2 ay (!ax) y1 y2 y3 x1 x2 x3
    rw [← hl2] at c1 c2 c3 c4 c5
    have j1 := hI true
    have j2 := hI false
    have j3 := hO true
    have j4 := hO false
    refine ⟨⟨by rw [c5 _ (by omega), a3], by rw [c5 _ (by omega), a4], by rw [c3]; cases ax <;> rfl, by rw [c4]; cases ax <;> rfl⟩, ⟨?_, ?_, ?_, ?_⟩, fun q hq => by rw [c5 q (by omega), a5 q hq]⟩
    · show lf (pI _ n true) = _; rw [c5 _ (by omega), a1]; cases ay <;> rfl
    · show lf (pO _ n true) = _; rw [c5 _ (by omega), a2]; cases ay <;> rfl
    · show lf (pI _ (n + 1) true) = _; rw [c1]
    · show lf (pO _ (n + 1) true) = _; rw [c2]
  · have hl2 : lf = cr (cr lab n (phS true ax ay) ax (!ay) x1 x2 x3 y1 y2 y3) (n + 1) (-phS true ax ay) (!ax) ay x1 x2 x3 y1 y2 y3 := hl
    obtain ⟨a1, a2, a3, a4, a5⟩ := cr_at (lab := lab) (n := n) (S := S) hs1 ax (!ay) x1 x2 x3 y1 y2 y3
    obtain ⟨c1, c2, c3, c4, c5⟩ := cr_at (lab := cr lab n (phS true ax ay) ax (!ay) x1 x2 x3 y1 y2 y3) (n := n + 1) (S := upd S n (phS true ax ay)) hs2 (!ax) ay x1 x2 x3 y1 y2 y3
    rw [← hl2] at c1 c2 c3 c4 c5
    have j1 := hI true
    have j2 := hI false
    have j3 := hO true
    have j4 := hO false
    refine ⟨⟨by rw [c5 _ (by omega), a1], by rw [c5 _ (by omega), a2], by rw [c1]; cases ax <;> rfl, by rw [c2]; cases ax <;> rfl⟩, ⟨?_, ?_, ?_, ?_⟩, fun q hq => by rw [c5 q (by omega), a5 q hq]⟩
    · show lf (pI _ n false) = _; rw [c5 _ (by omega), a3]; cases ay <;> rfl
    · show lf (pO _ n false) = _; rw [c5 _ (by omega), a4]; cases ay <;> rfl
    · show lf (pI _ (n + 1) false) = _; rw [c3]
    · show lf (pO _ (n + 1) false) = _; rw [c4]
