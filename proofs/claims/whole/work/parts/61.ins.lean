/-! (1) and (2) behind twists -/
theorem up_s {α : Type} {f : Nat → α} {k : Nat} {x : α} : va_up f k x k = x := by unfold va_up; exact if_pos rfl
theorem up_n {α : Type} {f : Nat → α} {k j : Nat} {x : α} (h : j ≠ k) : va_up f k x j = f j := by unfold va_up; exact if_neg h
/-- an edge is cut at its end by a pass through p (in) and q (out) -/
theorem vd_ins {A g : Nat → Prop} {lab lab' : Nat → Nat} (h : Vd A g lab) {r p q v : Nat} (hr : A r) (gr : g r) (hp : ¬ A p) (hq : ¬ A q) (gp : g p) (gq : ¬ g q) (hv : ∀ x, A x → lab x ≠ v)
    (l1 : ∀ x, A x → x ≠ r → lab' x = lab x) (l2 : lab' r = v) (l3 : lab' p = lab r) (l4 : lab' q = v) : Vd (fun x => A x ∨ x = p ∨ x = q) g lab' := by
  obtain ⟨h1, h2⟩ := h
  have hpr : p ≠ r := fun z => hp (by rw [z]; exact hr)
  have hqr : q ≠ r := fun z => hq (by rw [z]; exact hr)
  have hrv : lab r ≠ v := hv r hr
  have key : ∀ x y, A x → x ≠ r → (y = r ∨ y = p ∨ y = q) → lab' x = lab' y → (g x ↔ g y) → False := by
    intro x y hx hxr hy e k
    rw [l1 x hx hxr] at e
    rcases hy with rfl | rfl | rfl
    · rw [l2] at e; exact hv x hx e
    · rw [l3] at e; exact hxr (h1 x r hx hr e ⟨fun _ => gr, fun _ => k.mpr gp⟩)
    · rw [l4] at e; exact hv x hx e
  refine ⟨fun x y hx hy e k => ?_, fun x hx => ?_⟩
  · have cx : (A x ∧ x ≠ r) ∨ (x = r ∨ x = p ∨ x = q) := by
      rcases hx with hx | hx | hx
      · by_cases z : x = r
        · exact Or.inr (Or.inl z)
        · exact Or.inl ⟨hx, z⟩
      · exact Or.inr (Or.inr (Or.inl hx))
      · exact Or.inr (Or.inr (Or.inr hx))
    have cy : (A y ∧ y ≠ r) ∨ (y = r ∨ y = p ∨ y = q) := by
      rcases hy with hy | hy | hy
      · by_cases z : y = r
        · exact Or.inr (Or.inl z)
        · exact Or.inl ⟨hy, z⟩
      · exact Or.inr (Or.inr (Or.inl hy))
      · exact Or.inr (Or.inr (Or.inr hy))
    rcases cx with ⟨ax, nx⟩ | cx
    · rcases cy with ⟨ay, ny⟩ | cy
      · rw [l1 x ax nx, l1 y ay ny] at e
        exact h1 x y ax ay e k
      · exact (key x y ax nx cy e k).elim
    · rcases cy with ⟨ay, ny⟩ | cy
      · exact (key y x ay ny cx e.symm k.symm).elim
      · rcases cx with rfl | rfl | rfl <;> rcases cy with rfl | rfl | rfl
        · rfl
        · rw [l2, l3] at e; exact absurd e.symm hrv
        · exact absurd (k.mp gr) gq
        · rw [l2, l3] at e; exact absurd e hrv
        · rfl
        · exact absurd (k.mp gp) gq
        · exact absurd (k.mpr gr) gq
        · exact absurd (k.mpr gp) gq
        · rfl
  · rcases hx with hx | rfl | rfl
    · by_cases z : x = r
      · subst z
        exact ⟨q, Or.inr (Or.inr rfl), by rw [l4, l2], fun k => gq (k.mp gr)⟩
      · obtain ⟨y, y1, y2, y3⟩ := h2 x hx
        by_cases w : y = r
        · subst w
          exact ⟨p, Or.inr (Or.inl rfl), by rw [l3, l1 x hx z, y2], fun k => y3 ⟨fun _ => gr, fun _ => k.mpr gp⟩⟩
        · exact ⟨y, Or.inl y1, by rw [l1 y y1 w, l1 x hx z]; exact y2, y3⟩
    · obtain ⟨y, y1, y2, y3⟩ := h2 r hr
      have w : y ≠ r := fun w => y3 (by rw [w])
      exact ⟨y, Or.inl y1, by rw [l1 y y1 w, l3]; exact y2, fun k => y3 ⟨fun _ => k.mp gp, fun _ => gr⟩⟩
    · exact ⟨r, Or.inl hr, by rw [l2, l4], fun k => gq (k.mpr gr)⟩
/-- a closed strand with one pass -/
theorem vd_closed {A g : Nat → Prop} {lab lab' : Nat → Nat} (h : Vd A g lab) {p q v : Nat} (hp : ¬ A p) (hq : ¬ A q) (gp : g p) (gq : ¬ g q) (hv : ∀ x, A x → lab x ≠ v) (l1 : ∀ x, A x → lab' x = lab x) (l3 : lab' p = v) (l4 : lab' q = v) : Vd (fun x => A x ∨ x = p ∨ x = q) g lab' := by
  obtain ⟨h1, h2⟩ := h
  refine ⟨fun x y hx hy e k => ?_, fun x hx => ?_⟩
  · rcases hx with hx | rfl | rfl <;> rcases hy with hy | rfl | rfl
    · rw [l1 x hx, l1 y hy] at e; exact h1 x y hx hy e k
    · rw [l1 x hx, l3] at e; exact absurd e (hv x hx)
    · rw [l1 x hx, l4] at e; exact absurd e (hv x hx)
    · rw [l1 y hy, l3] at e; exact absurd e.symm (hv y hy)
    · rfl
    · exact absurd (k.mp gp) gq
    · rw [l1 y hy, l4] at e; exact absurd e.symm (hv y hy)
    · exact absurd (k.mpr gp) gq
    · rfl
  · rcases hx with hx | rfl | rfl
    · obtain ⟨y, y1, y2, y3⟩ := h2 x hx
      exact ⟨y, Or.inl y1, by rw [l1 x hx, l1 y y1]; exact y2, y3⟩
    · exact ⟨q, Or.inr (Or.inr rfl), by rw [l3, l4], fun k => gq (k.mp gp)⟩
    · exact ⟨p, Or.inr (Or.inl rfl), by rw [l3, l4], fun k => gq (k.mpr gp)⟩
/-- an edge is cut in three by two passes -/
theorem vd_ins2 {A g : Nat → Prop} {lab lab' : Nat → Nat} (h : Vd A g lab) {r i1 o1 i2 o2 u v : Nat} (hr : A r) (gr : g r) (hi1 : ¬ A i1) (ho1 : ¬ A o1) (hi2 : ¬ A i2) (ho2 : ¬ A o2) (d1 : i1 ≠ i2) (d2 : i1 ≠ o2) (d3 : o1 ≠ i2) (d4 : o1 ≠ o2) (d5 : i1 ≠ o1) (d6 : i2 ≠ o2) (gi1 : g i1) (go1 : ¬ g o1) (gi2 : g i2) (go2 : ¬ g o2) (hu : ∀ x, A x → lab x ≠ u) (hv : ∀ x, A x → lab x ≠ v) (huv : u ≠ v)
    (l1 : ∀ x, A x → x ≠ r → lab' x = lab x) (l2 : lab' r = v) (l3 : lab' i1 = lab r) (l4 : lab' o1 = u) (l5 : lab' i2 = u) (l6 : lab' o2 = v) : Vd (fun x => A x ∨ x = i1 ∨ x = o1 ∨ x = i2 ∨ x = o2) g lab' := by
  have n1 : i2 ≠ r := fun z => hi2 (by rw [z]; exact hr)
  have n2 : o2 ≠ r := fun z => ho2 (by rw [z]; exact hr)
  have n3 : i1 ≠ r := fun z => hi1 (by rw [z]; exact hr)
  have n4 : o1 ≠ r := fun z => ho1 (by rw [z]; exact hr)
  have nA : ∀ x, A x → x ≠ i1 ∧ x ≠ o1 ∧ x ≠ i2 ∧ x ≠ o2 := fun x hx => ⟨fun z => hi1 (by rw [← z]; exact hx), fun z => ho1 (by rw [← z]; exact hx), fun z => hi2 (by rw [← z]; exact hx), fun z => ho2 (by rw [← z]; exact hx)⟩
  have s1 := vd_ins (lab' := va_up (va_up (va_up lab r v) i2 (lab r)) o2 v) h hr gr hi2 ho2 gi2 go2 hv (fun x hx hxr => by
    obtain ⟨a1, a2, a3, a4⟩ := nA x hx
    rw [up_n a4, up_n a3, up_n hxr]) (by rw [up_n (Ne.symm n2), up_n (Ne.symm n1), up_s]) (by rw [up_n d6, up_s]) up_s
  generalize hm : va_up (va_up (va_up lab r v) i2 (lab r)) o2 v = lm at s1
  have m1 : lm i2 = lab r := by rw [← hm, up_n d6, up_s]
  have m2 : lm o2 = v := by rw [← hm, up_s]
  have m3 : lm r = v := by rw [← hm, up_n (Ne.symm n2), up_n (Ne.symm n1), up_s]
  have m4 : ∀ x, A x → x ≠ r → lm x = lab x := fun x hx hxr => by
    obtain ⟨a1, a2, a3, a4⟩ := nA x hx
    rw [← hm, up_n a4, up_n a3, up_n hxr]
  have s2 := vd_ins (lab' := lab') s1 (r := i2) (p := i1) (q := o1) (v := u) (Or.inr (Or.inl rfl)) gi2 (fun z => z.elim hi1 (fun z => z.elim d1 d2)) (fun z => z.elim ho1 (fun z => z.elim d3 d4)) gi1 go1 (fun x hx z => by
    rcases hx with hx | rfl | rfl
    · by_cases c : x = r
      · rw [c, m3] at z; exact huv z.symm
      · rw [m4 x hx c] at z; exact hu x hx z
    · rw [m1] at z; exact hu r hr z
    · rw [m2] at z; exact huv z.symm) (fun x hx hxr => by
    rcases hx with hx | rfl | rfl
    · by_cases c : x = r
      · rw [c, m3, l2]
      · rw [m4 x hx c, l1 x hx c]
    · exact absurd rfl hxr
    · rw [m2, l6]) l5 (by rw [m1, l3]) l4
  refine vd_congr s2 (fun x => ?_) (fun _ _ => Iff.rfl) (fun _ _ => rfl)
  constructor
  · rintro (z | z | z | z | z)
    · exact Or.inl (Or.inl z)
    · exact Or.inr (Or.inl z)
    · exact Or.inr (Or.inr z)
    · exact Or.inl (Or.inr (Or.inl z))
    · exact Or.inl (Or.inr (Or.inr z))
  · rintro ((z | z | z) | z | z)
    · exact Or.inl z
    · exact Or.inr (Or.inr (Or.inr (Or.inl z)))
    · exact Or.inr (Or.inr (Or.inr (Or.inr z)))
    · exact Or.inr (Or.inl z)
    · exact Or.inr (Or.inr (Or.inl z))
theorem fN_fresh {el : Nat → Nat} {m : Nat} (h : ∀ i j, i < j → j < m → el i < el j) (a : Nat) : ∀ i, i ≤ m → ∀ e, e < i → el e ≠ fN el a i
  | 0, _, e, he => absurd he (Nat.not_lt_zero e)
  | i + 1, hi, e, he => by
    have ih := fN_fresh h a i (by omega)
    rw [fN]
    by_cases c : el i = fN el a i
    · rw [if_pos c]
      by_cases c2 : e = i
      · rw [c2]; omega
      · have := h e i (by omega) (by omega); omega
    · rw [if_neg c]
      by_cases c2 : e = i
      · rw [c2]; exact c
      · exact ih e (by omega)
/-- the new crossing's places -/
def pI (S : Nat → Int32) (m : Nat) (b : Bool) : Nat := if b then uq S m else 4 * m
def pO (S : Nat → Int32) (m : Nat) (b : Bool) : Nat := ac (pI S m b)
theorem pI_lt (S : Nat → Int32) (m : Nat) (b : Bool) : 4 * m ≤ pI S m b ∧ pI S m b < 4 * m + 4 := by
  unfold pI uq
  have := up_or S m
  cases b <;> simp <;> omega
theorem pO_lt (S : Nat → Int32) (m : Nat) (b : Bool) : 4 * m ≤ pO S m b ∧ pO S m b < 4 * m + 4 := by
  have := pI_lt S m b
  unfold pO ac
  omega
theorem gi_pI (S : Nat → Int32) (m : Nat) (b : Bool) : gi S (pI S m b) := by
  unfold pI
  cases b
  · exact Or.inl (by simp)
  · exact gi_uq S m
theorem gi_pO (S : Nat → Int32) (m : Nat) (b : Bool) : ¬ gi S (pO S m b) := fun z => ((gi_ac S _).mp z) (gi_pI S m b)
theorem cr_at {lab : Nat → Nat} {n : Nat} {S : Nat → Int32} {sg : Int32} (hs : sg = nI 1 ∨ sg = -1) (pu pl : Bool) (u1 u2 u3 l1 l2 l3 : Nat) :
    cr lab n sg pu pl u1 u2 u3 l1 l2 l3 (pI (upd S n sg) n true) = (if pu then u1 else u2) ∧ cr lab n sg pu pl u1 u2 u3 l1 l2 l3 (pO (upd S n sg) n true) = (if pu then u2 else u3) ∧ cr lab n sg pu pl u1 u2 u3 l1 l2 l3 (pI (upd S n sg) n false) = (if pl then l1 else l2) ∧ cr lab n sg pu pl u1 u2 u3 l1 l2 l3 (pO (upd S n sg) n false) = (if pl then l2 else l3) ∧ ∀ q, q < 4 * n → cr lab n sg pu pl u1 u2 u3 l1 l2 l3 q = lab q := by
  have hup : up (upd S n sg) n = if sg = nI 1 then 3 else 1 := by unfold up; rw [pk_us]
  have a0 : pI (upd S n sg) n false = 4 * n := rfl
  have a1 : pO (upd S n sg) n false = 4 * n + 2 := by unfold pO; rw [a0]; unfold ac; omega
  unfold cr ad4
  have lo : ∀ (x0 x1 x2 x3 q : Nat), q < 4 * n → va_up (va_up (va_up (va_up lab (4 * n) x0) (4 * n + 1) x1) (4 * n + 2) x2) (4 * n + 3) x3 q = lab q := fun x0 x1 x2 x3 q hq => by
    rw [up_n (by omega), up_n (by omega), up_n (by omega), up_n (by omega)]
  have e0 : ∀ (x0 x1 x2 x3 : Nat), va_up (va_up (va_up (va_up lab (4 * n) x0) (4 * n + 1) x1) (4 * n + 2) x2) (4 * n + 3) x3 (4 * n) = x0 := fun x0 x1 x2 x3 => by
    rw [up_n (by omega), up_n (by omega), up_n (by omega), up_s]
  have e1 : ∀ (x0 x1 x2 x3 : Nat), va_up (va_up (va_up (va_up lab (4 * n) x0) (4 * n + 1) x1) (4 * n + 2) x2) (4 * n + 3) x3 (4 * n + 1) = x1 := fun x0 x1 x2 x3 => by
    rw [up_n (by omega), up_n (by omega), up_s]
  have e2 : ∀ (x0 x1 x2 x3 : Nat), va_up (va_up (va_up (va_up lab (4 * n) x0) (4 * n + 1) x1) (4 * n + 2) x2) (4 * n + 3) x3 (4 * n + 2) = x2 := fun x0 x1 x2 x3 => by
    rw [up_n (by omega), up_s]
  have e3 : ∀ (x0 x1 x2 x3 : Nat), va_up (va_up (va_up (va_up lab (4 * n) x0) (4 * n + 1) x1) (4 * n + 2) x2) (4 * n + 3) x3 (4 * n + 3) = x3 := fun x0 x1 x2 x3 => up_s
  rcases hs with rfl | rfl
  · have b0 : pI (upd S n (nI 1)) n true = 4 * n + 3 := by show 4 * n + up _ n = _; rw [hup, if_pos rfl]
    have b1 : pO (upd S n (nI 1)) n true = 4 * n + 1 := by unfold pO; rw [b0]; unfold ac; omega
    rw [a0, a1, b0, b1, e0, e1, e2, e3]
    exact ⟨by unfold ifS; rw [if_pos rfl], by unfold ifS; rw [if_pos rfl], rfl, rfl, fun q hq => lo _ _ _ _ q hq⟩
  · have hne : ¬ ((-1 : Int32) = nI 1) := by decide
    have b0 : pI (upd S n (-1)) n true = 4 * n + 1 := by show 4 * n + up _ n = _; rw [hup, if_neg hne]
    have b1 : pO (upd S n (-1)) n true = 4 * n + 3 := by unfold pO; rw [b0]; unfold ac; omega
    rw [a0, a1, b0, b1, e0, e1, e2, e3]
    exact ⟨by unfold ifS; rw [if_neg hne], by unfold ifS; rw [if_neg hne], rfl, rfl, fun q hq => lo _ _ _ _ q hq⟩
theorem p_apart (S : Nat → Int32) (m : Nat) : pI S m true ≠ pI S m false ∧ pI S m true ≠ pO S m false ∧ pO S m true ≠ pI S m false ∧ pO S m true ≠ pO S m false ∧ pI S m true ≠ pO S m true ∧ pI S m false ≠ pO S m false := by
  have := up_or S m
  have a0 : pI S m false = 4 * m := rfl
  have a1 : pO S m false = 4 * m + 2 := by unfold pO; rw [a0]; unfold ac; omega
  have b0 : pI S m true = 4 * m + up S m := rfl
  have b1 : pO S m true = 4 * m + (up S m + 2) % 4 := by unfold pO; rw [b0]; unfold ac; omega
  rw [a0, a1, b0, b1]
  omega
theorem p_all (S : Nat → Int32) (m q : Nat) (h1 : 4 * m ≤ q) (h2 : q < 4 * m + 4) : q = pI S m true ∨ q = pO S m true ∨ q = pI S m false ∨ q = pO S m false := by
  have := up_or S m
  have a0 : pI S m false = 4 * m := rfl
  have a1 : pO S m false = 4 * m + 2 := by unfold pO; rw [a0]; unfold ac; omega
  have b0 : pI S m true = 4 * m + up S m := rfl
  have b1 : pO S m true = 4 * m + (up S m + 2) % 4 := by unfold pO; rw [b0]; unfold ac; omega
  rw [a0, a1, b0, b1]
  omega
theorem gi_upd (S : Nat → Int32) {n q : Nat} (sg : Int32) (hq : q < 4 * n) : gi (upd S n sg) q ↔ gi S q := by
  have : up (upd S n sg) (q / 4) = up S (q / 4) := by unfold up; rw [pk_un (by omega)]
  unfold gi
  rw [this]
