/-! (1) and (2) stay true: labels on a set of places of two kinds -/
def Vd (A g : Nat → Prop) (lab : Nat → Nat) : Prop := (∀ q r, A q → A r → lab q = lab r → (g q ↔ g r) → q = r) ∧ ∀ q, A q → ∃ r, A r ∧ lab r = lab q ∧ ¬ (g q ↔ g r)
theorem vd_iff {n : Nat} {lab : Nat → Nat} {S : Nat → Int32} : (C1 n lab ∧ C2 n lab S) ↔ Vd (fun q => q < 4 * n) (gi S) lab := by
  constructor
  · rintro ⟨h1, h2⟩
    refine ⟨fun q r hq hr hl hk => ?_, fun q hq => ?_⟩
    · apply Classical.byContradiction
      intro hne
      exact h2 q r hq hr hne hl hk
    · obtain ⟨r, r1, r2, r3, r4⟩ := h1 q hq
      exact ⟨r, r1, r3, h2 q r hq r1 (Ne.symm r2) r3.symm⟩
  · rintro ⟨h1, h2⟩
    refine ⟨fun q hq => ?_, fun q r hq hr hne hl hk => hne (h1 q r hq hr hl hk)⟩
    obtain ⟨r, r1, r2, r3⟩ := h2 q hq
    refine ⟨r, r1, fun z => r3 (by rw [z]), r2, fun t ht hl => ?_⟩
    by_cases c : gi S t ↔ gi S q
    · exact Or.inl (h1 t q ht hq hl c)
    · refine Or.inr (h1 t r ht r1 (hl.trans r2.symm) ?_)
      generalize gi S q = x at c r3
      generalize gi S t = y at c ⊢
      generalize gi S r = z at r3 ⊢
      by_cases a : x <;> by_cases b : y <;> by_cases d : z <;> simp only [a, b, d, iff_true, iff_false, true_iff, false_iff, not_true_eq_false, not_false_eq_true, iff_self] at c r3 ⊢
theorem vd_congr {A B g g' : Nat → Prop} {lab lab' : Nat → Nat} (h : Vd A g lab) (hA : ∀ q, B q ↔ A q) (hg : ∀ q, A q → (g' q ↔ g q)) (hl : ∀ q, A q → lab' q = lab q) : Vd B g' lab' := by
  refine ⟨fun q r hq hr e k => ?_, fun q hq => ?_⟩
  · have a := (hA q).mp hq
    have b := (hA r).mp hr
    rw [hl q a, hl r b] at e
    rw [hg q a, hg r b] at k
    exact h.1 q r a b e k
  · have a := (hA q).mp hq
    obtain ⟨r, r1, r2, r3⟩ := h.2 q a
    exact ⟨r, (hA r).mpr r1, by rw [hl q a, hl r r1]; exact r2, by rw [hg q a, hg r r1]; exact r3⟩
theorem mn_mx (a b : Nat) : (mn a b = a ∧ mx a b = b) ∨ (mn a b = b ∧ mx a b = a) := by unfold mn mx; split <;> split <;> omega
theorem jl_eq {lab : Nat → Nat} {a b q : Nat} : (lab q = lab a ∨ lab q = lab b → jl lab a b q = mn (lab a) (lab b)) ∧ (¬ (lab q = lab a ∨ lab q = lab b) → jl lab a b q = lab q) := by
  unfold jl
  rcases mn_mx (lab a) (lab b) with ⟨e1, e2⟩ | ⟨e1, e2⟩ <;> rw [e1, e2] <;> constructor <;> intro h <;> split <;> omega
theorem mn_or (a b : Nat) : mn a b = a ∨ mn a b = b := by unfold mn; split <;> simp
/-- two ends of a strand become one edge -/
theorem vd_join {A g : Nat → Prop} {lab : Nat → Nat} (h : Vd A g lab) {a b : Nat} (ha : A a) (hb : A b) (ga : g a) (gb : ¬ g b) : Vd (fun q => A q ∧ q ≠ a ∧ q ≠ b) g (jl lab a b) := by
  obtain ⟨h1, h2⟩ := h
  have key : ∀ q r, A q → A r → q ≠ a → q ≠ b → r ≠ a → r ≠ b → lab q = lab a → lab r = lab b → lab a ≠ lab b → (¬ g q ∧ g r) := by
    intro q r hq hr q1 q2 r1 r2 e1 e2 hne
    refine ⟨fun z => q1 (h1 q a hq ha e1 ⟨fun _ => ga, fun _ => z⟩), ?_⟩
    apply Classical.byContradiction
    intro z
    exact r2 (h1 r b hr hb e2 ⟨fun y => absurd y z, fun y => absurd y gb⟩)
  have only : ∀ q, A q → lab a = lab b → lab q = lab a → q = a ∨ q = b := by
    intro q hq e e2
    by_cases c : g q
    · exact Or.inl (h1 q a hq ha e2 ⟨fun _ => ga, fun _ => c⟩)
    · exact Or.inr (h1 q b hq hb (e2.trans e) ⟨fun y => absurd y c, fun y => absurd y gb⟩)
  have new : ∀ q r, (lab q = lab a ∨ lab q = lab b) → A r → ¬ (lab r = lab a ∨ lab r = lab b) → jl lab a b q ≠ jl lab a b r := by
    intro q r e1 hr e2 z
    rw [jl_eq.1 e1, jl_eq.2 e2] at z
    rcases mn_or (lab a) (lab b) with y | y
    · exact e2 (Or.inl (by omega))
    · exact e2 (Or.inr (by omega))
  refine ⟨fun q r hq hr e k => ?_, fun q hq => ?_⟩
  · obtain ⟨hq, q1, q2⟩ := hq
    obtain ⟨hr, r1, r2⟩ := hr
    by_cases cq : lab q = lab a ∨ lab q = lab b
    · by_cases cr : lab r = lab a ∨ lab r = lab b
      · by_cases ce : lab q = lab r
        · exact h1 q r hq hr ce k
        · rcases cq with cq | cq <;> rcases cr with cr | cr
          · omega
          · have := key q r hq hr q1 q2 r1 r2 cq cr (by omega)
            exact absurd (k.mpr this.2) this.1
          · have := key r q hr hq r1 r2 q1 q2 cr cq (by omega)
            exact absurd (k.mp this.2) this.1
          · omega
      · exact absurd e (new q r cq hr cr)
    · by_cases cr : lab r = lab a ∨ lab r = lab b
      · exact absurd e.symm (new r q cr hq cq)
      · rw [jl_eq.2 cq, jl_eq.2 cr] at e
        exact h1 q r hq hr e k
  · obtain ⟨hq, q1, q2⟩ := hq
    by_cases cq : lab q = lab a ∨ lab q = lab b
    · by_cases hne : lab a = lab b
      · exfalso
        rcases only q hq hne (by rcases cq with c | c <;> omega) with z | z
        · exact q1 z
        · exact q2 z
      · obtain ⟨pa, a1, a2, a3⟩ := h2 a ha
        obtain ⟨pb, b1, b2, b3⟩ := h2 b hb
        have pa1 : pa ≠ a := fun z => a3 (by rw [z])
        have pa2 : pa ≠ b := fun z => hne (by rw [← a2, z])
        have pb1 : pb ≠ b := fun z => b3 (by rw [z])
        have pb2 : pb ≠ a := fun z => hne (by rw [← b2, z])
        have gpa : ¬ g pa := fun z => a3 ⟨fun _ => z, fun _ => ga⟩
        have gpb : g pb := by
          apply Classical.byContradiction
          intro z
          exact b3 ⟨fun y => absurd y gb, fun y => absurd y z⟩
        rcases cq with cq | cq
        · have gq : ¬ g q := fun z => q1 (h1 q a hq ha cq ⟨fun _ => ga, fun _ => z⟩)
          exact ⟨pb, ⟨b1, pb2, pb1⟩, by rw [jl_eq.1 (Or.inr b2), jl_eq.1 (Or.inl cq)], fun z => gq (z.mpr gpb)⟩
        · have gq : g q := by
            apply Classical.byContradiction
            intro z
            exact q2 (h1 q b hq hb cq ⟨fun y => absurd y z, fun y => absurd y gb⟩)
          exact ⟨pa, ⟨a1, pa1, pa2⟩, by rw [jl_eq.1 (Or.inl a2), jl_eq.1 (Or.inr cq)], fun z => gpa (z.mp gq)⟩
    · obtain ⟨r, r1, r2, r3⟩ := h2 q hq
      have cr : ¬ (lab r = lab a ∨ lab r = lab b) := by rw [r2]; exact cq
      refine ⟨r, ⟨r1, fun z => cr (Or.inl (by rw [z])), fun z => cr (Or.inr (by rw [z]))⟩, ?_, r3⟩
      rw [jl_eq.2 cr, jl_eq.2 cq]
      exact r2
theorem up_or (S : Nat → Int32) (c : Nat) : up S c = 3 ∨ up S c = 1 := by unfold up; split <;> simp
theorem rmS_at {S : Nat → Int32} {n c k : Nat} (hc : c < n) (hk : k < n - 1) : rmS S n c k = S (if k < c then k else k + 1) := by
  unfold rmS va_cpy
  by_cases h : k < c
  · rw [if_neg (by omega), if_pos h]
  · rw [if_pos (by omega), if_neg h]
    congr 1
    omega
theorem gi_rm {S : Nat → Int32} {n c q : Nat} (hc : c < n) (hq : q < 4 * (n - 1)) : gi (rmS S n c) q ↔ gi S (if q < 4 * c then q else q + 4) := by
  have h1 : rmS S n c (q / 4) = S (if q / 4 < c then q / 4 else q / 4 + 1) := rmS_at hc (by omega)
  by_cases h : q < 4 * c
  · rw [if_pos h]
    have : up (rmS S n c) (q / 4) = up S (q / 4) := by
      rw [if_pos (by omega)] at h1
      unfold up; rw [h1]
    unfold gi
    rw [this]
  · rw [if_neg h]
    have : up (rmS S n c) (q / 4) = up S ((q + 4) / 4) := by
      rw [if_neg (by omega)] at h1
      unfold up; rw [h1, show (q + 4) / 4 = q / 4 + 1 by omega]
    unfold gi
    rw [this]
    rcases up_or S ((q + 4) / 4) with e | e <;> rw [e] <;> omega
theorem gi_uq (S : Nat → Int32) (c : Nat) : gi S (uq S c) := by
  unfold gi uq
  rcases up_or S c with e | e
  · right; rw [e, show (4 * c + 3) / 4 = c by omega, e]
  · right; rw [e, show (4 * c + 1) / 4 = c by omega, e]
/-- LIFT keeps (1) and (2) -/
theorem val_lift {n : Nat} {lab : Nat → Nat} {S : Nat → Int32} (h : C1 n lab ∧ C2 n lab S) {c : Nat} (hc : c < n) : C1 (n - 1) (lfL lab S c) ∧ C2 (n - 1) (lfL lab S c) (rmS S n c) := by
  have h0 := vd_iff.mp h
  have hu := uq_lt S hc
  have e1 : gi S (4 * c) := Or.inl (by omega)
  have e2 : ¬ gi S (4 * c + 2) := by
    unfold gi
    rcases up_or S ((4 * c + 2) / 4) with e | e <;> rw [e] <;> omega
  have h1 := vd_join h0 (a := 4 * c) (b := 4 * c + 2) (show 4 * c < 4 * n by omega) (show 4 * c + 2 < 4 * n by omega) e1 e2
  have e3 := gi_uq S c
  have e4 : ¬ gi S (ac (uq S c)) := fun z => ((gi_ac S _).mp z) e3
  have hup := up_or S c
  have hul : uq S c = 4 * c + 1 ∨ uq S c = 4 * c + 3 := by unfold uq; omega
  have hac : ac (uq S c) = 4 * c + 1 ∨ ac (uq S c) = 4 * c + 3 := by unfold ac; omega
  have hne : uq S c ≠ ac (uq S c) := by unfold ac; omega
  have h2 := vd_join h1 (a := uq S c) (b := ac (uq S c)) ⟨by omega, by omega, by omega⟩ ⟨by omega, by omega, by omega⟩ e3 e4
  apply vd_iff.mpr
  generalize hlab : jl (jl lab (4 * c) (4 * c + 2)) (uq S c) (ac (uq S c)) = lb at h2
  have elf : lfL lab S c = rmL lb c := by rw [← hlab]; rfl
  rw [elf]
  obtain ⟨g1, g2⟩ := h2
  have inA : ∀ q, q < 4 * (n - 1) → ((((if q < 4 * c then q else q + 4) < 4 * n ∧ (if q < 4 * c then q else q + 4) ≠ 4 * c ∧ (if q < 4 * c then q else q + 4) ≠ 4 * c + 2) ∧ (if q < 4 * c then q else q + 4) ≠ uq S c ∧ (if q < 4 * c then q else q + 4) ≠ ac (uq S c))) := by
    intro q hq
    split <;> refine ⟨⟨by omega, by omega, by omega⟩, by omega, by omega⟩
  have lbq : ∀ q, rmL lb c q = lb (if q < 4 * c then q else q + 4) := by
    intro q
    unfold rmL
    split <;> rfl
  refine ⟨fun q r hq hr e k => ?_, fun q hq => ?_⟩
  · rw [lbq, lbq] at e
    rw [gi_rm hc hq, gi_rm hc hr] at k
    have := g1 _ _ (inA q hq) (inA r hr) e k
    by_cases x : q < 4 * c <;> by_cases y : r < 4 * c
    · rw [if_pos x, if_pos y] at this; exact this
    · rw [if_pos x, if_neg y] at this; omega
    · rw [if_neg x, if_pos y] at this; omega
    · rw [if_neg x, if_neg y] at this; omega
  · obtain ⟨r, r1, r2, r3⟩ := g2 _ (inA q hq)
    have hr : ∃ s, s < 4 * (n - 1) ∧ r = (if s < 4 * c then s else s + 4) := by
      by_cases x : r < 4 * c
      · exact ⟨r, by omega, by rw [if_pos x]⟩
      · have : 4 * c + 4 ≤ r := by omega
        exact ⟨r - 4, by omega, by rw [if_neg (by omega)]; omega⟩
    obtain ⟨s, s1, rfl⟩ := hr
    exact ⟨s, s1, by rw [lbq, lbq]; exact r2, by rw [gi_rm hc hq, gi_rm hc s1]; exact r3⟩
