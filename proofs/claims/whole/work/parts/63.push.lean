/-! (1) and (2) behind PUSH and SLIDE -/
set_option maxHeartbeats 1000000 in
theorem val_push {n : Nat} {lab : Nat → Nat} {S : Nat → Int32} {el fr to_ at_ : Nat → Nat} (h : C1 n lab ∧ C2 n lab S) (hE : Ed n lab S el fr to_ at_) {e f : Nat} (he : e < 2 * n) (hf : f < 2 * n) (hef : e ≠ f) (ov ax ay : Bool) {u v w z : Nat} (hu : u = fN el 0 (2 * n)) (hv : v = fN el u (2 * n)) (hw : w = fN el v (2 * n)) (hz : z = fN el w (2 * n)) :
    C1 (n + 1 + 1) (phL ov ax ay (va_up (va_up lab (to_ e) v) (to_ f) z) n (el e) u v (el f) w z) ∧ C2 (n + 1 + 1) (phL ov ax ay (va_up (va_up lab (to_ e) v) (to_ f) z) n (el e) u v (el f) w z) (upd (upd S n (phS ov ax ay)) (n + 1) (-phS ov ax ay)) := by
  obtain ⟨b1, b2, b3, b4, b5, b6⟩ := hE.1 e he
  obtain ⟨c1, c2, c3, c4, c5, c6⟩ := hE.1 f hf
  have hne : to_ e ≠ to_ f := fun q => hef (by rw [← ed_at_to hE he, ← ed_at_to hE hf, q])
  have huv : u < v := by have := (fN_le el u (2 * n)).1; omega
  have hvw : v < w := by have := (fN_le el v (2 * n)).1; omega
  have hwz : w < z := by have := (fN_le el w (2 * n)).1; omega
  have fu : ∀ x, x < 4 * n → lab x ≠ u := fun x hx => by rw [hu]; exact ed_fresh hE 0 x hx
  have fv : ∀ x, x < 4 * n → lab x ≠ v := fun x hx => by rw [hv]; exact ed_fresh hE u x hx
  have fw : ∀ x, x < 4 * n → lab x ≠ w := fun x hx => by rw [hw]; exact ed_fresh hE v x hx
  have fz : ∀ x, x < 4 * n → lab x ≠ z := fun x hx => by rw [hz]; exact ed_fresh hE w x hx
  have hat := ph_at (lab := va_up (va_up lab (to_ e) v) (to_ f) z) (n := n) (S := S) ov ax ay (el e) u v (el f) w z rfl rfl
  generalize hlf : phL ov ax ay (va_up (va_up lab (to_ e) v) (to_ f) z) n (el e) u v (el f) w z = lf at hat ⊢
  have h0 : Vd (fun q => q < 4 * n) (gi (upd (upd S n (phS ov ax ay)) (n + 1) (-phS ov ax ay))) lab := vd_congr (vd_iff.mp h) (fun _ => Iff.rfl) (fun q hq => by rw [gi_upd _ _ (by omega), gi_upd _ _ hq]) (fun _ _ => rfl)
  have gt1 : gi (upd (upd S n (phS ov ax ay)) (n + 1) (-phS ov ax ay)) (to_ e) := by rw [gi_upd _ _ (by omega), gi_upd _ _ b2]; exact b6
  have gt2 : gi (upd (upd S n (phS ov ax ay)) (n + 1) (-phS ov ax ay)) (to_ f) := by rw [gi_upd _ _ (by omega), gi_upd _ _ c2]; exact c6
  generalize upd (upd S n (phS ov ax ay)) (n + 1) (-phS ov ax ay) = S2 at hat h0 gt1 gt2 ⊢
  obtain ⟨⟨x1, x2, x3, x4⟩, ⟨y1, y2, y3, y4⟩, lo⟩ := hat
  obtain ⟨p1, p2, p3, p4, p5, p6⟩ := p_apart S2 n
  obtain ⟨q1, q2, q3, q4, q5, q6⟩ := p_apart S2 (n + 1)
  have rI := fun m b => pI_lt S2 m b
  have rO := fun m b => pO_lt S2 m b
  -- the passes of x: first (m1), second (m2); of y: first (k1), second (k2)
  have hX : ∃ m1 m2, ((m1 = n ∧ m2 = n + 1) ∨ (m1 = n + 1 ∧ m2 = n)) ∧ lf (pI S2 m1 ov) = el e ∧ lf (pO S2 m1 ov) = u ∧ lf (pI S2 m2 ov) = u ∧ lf (pO S2 m2 ov) = v := by
    cases ax
    · exact ⟨n + 1, n, Or.inr ⟨rfl, rfl⟩, x3, x4, x1, x2⟩
    · exact ⟨n, n + 1, Or.inl ⟨rfl, rfl⟩, x1, x2, x3, x4⟩
  have hY : ∃ k1 k2, ((k1 = n ∧ k2 = n + 1) ∨ (k1 = n + 1 ∧ k2 = n)) ∧ lf (pI S2 k1 (!ov)) = el f ∧ lf (pO S2 k1 (!ov)) = w ∧ lf (pI S2 k2 (!ov)) = w ∧ lf (pO S2 k2 (!ov)) = z := by
    cases ay
    · exact ⟨n, n + 1, Or.inl ⟨rfl, rfl⟩, y1, y2, y3, y4⟩
    · exact ⟨n + 1, n, Or.inr ⟨rfl, rfl⟩, y3, y4, y1, y2⟩
  obtain ⟨m1, m2, hm, X1, X2, X3, X4⟩ := hX
  obtain ⟨k1, k2, hk, Y1, Y2, Y3, Y4⟩ := hY
  have nt : ∀ m b, (m = n ∨ m = n + 1) → ¬ pI S2 m b < 4 * n ∧ ¬ pO S2 m b < 4 * n := fun m b hmm => by
    have a := rI m b
    have c := rO m b
    omega
  have io : ∀ m b, pI S2 m b ≠ pO S2 m b := fun m b => by unfold pO ac; omega
  -- places of different crossings, or of different strands of one crossing, are apart
  have dm : ∀ b b', pI S2 m1 b ≠ pI S2 m2 b' ∧ pI S2 m1 b ≠ pO S2 m2 b' ∧ pO S2 m1 b ≠ pI S2 m2 b' ∧ pO S2 m1 b ≠ pO S2 m2 b' := fun b b' => by
    have a1 := rI m1 b
    have a2 := rO m1 b
    have a3 := rI m2 b'
    have a4 := rO m2 b'
    refine ⟨?_, ?_, ?_, ?_⟩ <;> omega
  have dk : ∀ b b', pI S2 k1 b ≠ pI S2 k2 b' ∧ pI S2 k1 b ≠ pO S2 k2 b' ∧ pO S2 k1 b ≠ pI S2 k2 b' ∧ pO S2 k1 b ≠ pO S2 k2 b' := fun b b' => by
    have a1 := rI k1 b
    have a2 := rO k1 b
    have a3 := rI k2 b'
    have a4 := rO k2 b'
    refine ⟨?_, ?_, ?_, ?_⟩ <;> omega
  have ds : ∀ m, pI S2 m (!ov) ≠ pI S2 m ov ∧ pI S2 m (!ov) ≠ pO S2 m ov ∧ pO S2 m (!ov) ≠ pI S2 m ov ∧ pO S2 m (!ov) ≠ pO S2 m ov := fun m => by
    obtain ⟨a1, a2, a3, a4, -, -⟩ := p_apart S2 m
    cases ov
    · exact ⟨a1, a2, a3, a4⟩
    · exact ⟨Ne.symm a1, Ne.symm a3, Ne.symm a2, Ne.symm a4⟩
  have dc : ∀ m m' b b', m ≠ m' → pI S2 m b ≠ pI S2 m' b' ∧ pI S2 m b ≠ pO S2 m' b' ∧ pO S2 m b ≠ pI S2 m' b' ∧ pO S2 m b ≠ pO S2 m' b' := fun m m' b b' hmm => by
    have a1 := rI m b
    have a2 := rO m b
    have a3 := rI m' b'
    have a4 := rO m' b'
    refine ⟨?_, ?_, ?_, ?_⟩ <;> omega
  have dxy : ∀ k m, pI S2 k (!ov) ≠ pI S2 m ov ∧ pI S2 k (!ov) ≠ pO S2 m ov ∧ pO S2 k (!ov) ≠ pI S2 m ov ∧ pO S2 k (!ov) ≠ pO S2 m ov := fun k m => by
    by_cases c : k = m
    · subst c; exact ds k
    · exact dc k m _ _ c
  have tf : ∀ m b, (m = n ∨ m = n + 1) → pI S2 m b ≠ to_ f ∧ pO S2 m b ≠ to_ f := fun m b hmm => by
    have := nt m b hmm
    omega
  have mo1 : m1 = n ∨ m1 = n + 1 := by omega
  have mo2 : m2 = n ∨ m2 = n + 1 := by omega
  have ko1 : k1 = n ∨ k1 = n + 1 := by omega
  have ko2 : k2 = n ∨ k2 = n + 1 := by omega
  have s1 := vd_ins2 (lab' := va_up lf (to_ f) (lab (to_ f))) h0 (r := to_ e) (i1 := pI S2 m1 ov) (o1 := pO S2 m1 ov) (i2 := pI S2 m2 ov) (o2 := pO S2 m2 ov) (u := u) (v := v) b2 gt1 (nt _ _ mo1).1 (nt _ _ mo1).2 (nt _ _ mo2).1 (nt _ _ mo2).2 (dm _ _).1 (dm _ _).2.1 (dm _ _).2.2.1 (dm _ _).2.2.2 (io _ _) (io _ _) (gi_pI _ _ _) (gi_pO _ _ _) (gi_pI _ _ _) (gi_pO _ _ _) fu fv (by omega)
    (fun x hx hxr => by
      by_cases c : x = to_ f
      · rw [c, up_s]
      · rw [up_n c, lo x hx, up_n c, up_n hxr]) (by rw [up_n hne, lo _ b2, up_n hne, up_s]) (by rw [up_n (tf _ _ mo1).1, X1, b4]) (by rw [up_n (tf _ _ mo1).2, X2]) (by rw [up_n (tf _ _ mo2).1, X3]) (by rw [up_n (tf _ _ mo2).2, X4])
  have s2 := vd_ins2 (lab' := lf) s1 (r := to_ f) (i1 := pI S2 k1 (!ov)) (o1 := pO S2 k1 (!ov)) (i2 := pI S2 k2 (!ov)) (o2 := pO S2 k2 (!ov)) (u := w) (v := z) (Or.inl c2) gt2 (fun q => q.elim (nt _ _ ko1).1 (fun q => q.elim (dxy k1 m1).1 (fun q => q.elim (dxy k1 m1).2.1 (fun q => q.elim (dxy k1 m2).1 (dxy k1 m2).2.1)))) (fun q => q.elim (nt _ _ ko1).2 (fun q => q.elim (dxy k1 m1).2.2.1 (fun q => q.elim (dxy k1 m1).2.2.2 (fun q => q.elim (dxy k1 m2).2.2.1 (dxy k1 m2).2.2.2))))
    (fun q => q.elim (nt _ _ ko2).1 (fun q => q.elim (dxy k2 m1).1 (fun q => q.elim (dxy k2 m1).2.1 (fun q => q.elim (dxy k2 m2).1 (dxy k2 m2).2.1)))) (fun q => q.elim (nt _ _ ko2).2 (fun q => q.elim (dxy k2 m1).2.2.1 (fun q => q.elim (dxy k2 m1).2.2.2 (fun q => q.elim (dxy k2 m2).2.2.1 (dxy k2 m2).2.2.2)))) (dk _ _).1 (dk _ _).2.1 (dk _ _).2.2.1 (dk _ _).2.2.2 (io _ _) (io _ _) (gi_pI _ _ _) (gi_pO _ _ _) (gi_pI _ _ _) (gi_pO _ _ _)
    (fun x hx q => by
      rcases hx with hx | rfl | rfl | rfl | rfl
      · by_cases c : x = to_ f
        · rw [c, up_s] at q; exact fw _ c2 q
        · rw [up_n c, lo x hx, up_n c] at q
          by_cases c' : x = to_ e
          · rw [c', up_s] at q; omega
          · rw [up_n c'] at q; exact fw x hx q
      · rw [up_n (tf _ _ mo1).1, X1, ← b4] at q; exact fw _ b2 q
      · rw [up_n (tf _ _ mo1).2, X2] at q; omega
      · rw [up_n (tf _ _ mo2).1, X3] at q; omega
      · rw [up_n (tf _ _ mo2).2, X4] at q; omega)
    (fun x hx q => by
      rcases hx with hx | rfl | rfl | rfl | rfl
      · by_cases c : x = to_ f
        · rw [c, up_s] at q; exact fz _ c2 q
        · rw [up_n c, lo x hx, up_n c] at q
          by_cases c' : x = to_ e
          · rw [c', up_s] at q; omega
          · rw [up_n c'] at q; exact fz x hx q
      · rw [up_n (tf _ _ mo1).1, X1, ← b4] at q; exact fz _ b2 q
      · rw [up_n (tf _ _ mo1).2, X2] at q; omega
      · rw [up_n (tf _ _ mo2).1, X3] at q; omega
      · rw [up_n (tf _ _ mo2).2, X4] at q; omega) (by omega) (fun x hx hxr => (up_n hxr).symm) (by rw [lo _ c2, up_s]) (by rw [Y1, up_s, c4]) Y2 Y3 Y4
  apply vd_iff.mpr
  refine vd_congr s2 (fun q => ?_) (fun _ _ => Iff.rfl) (fun _ _ => rfl)
  constructor
  · intro hq
    by_cases c : q < 4 * n
    · exact Or.inl (Or.inl c)
    · have hp : ∃ m, (m = n ∨ m = n + 1) ∧ (q = pI S2 m ov ∨ q = pO S2 m ov ∨ q = pI S2 m (!ov) ∨ q = pO S2 m (!ov)) := by
        by_cases c2 : q < 4 * n + 4
        · refine ⟨n, Or.inl rfl, ?_⟩
          rcases p_all S2 n q (by omega) c2 with r | r | r | r <;> cases ov <;> simp [r]
        · refine ⟨n + 1, Or.inr rfl, ?_⟩
          rcases p_all S2 (n + 1) q (by omega) (by omega) with r | r | r | r <;> cases ov <;> simp [r]
      obtain ⟨m, hmn, hq4⟩ := hp
      have hmm : m = m1 ∨ m = m2 := by omega
      have hkk : m = k1 ∨ m = k2 := by omega
      rcases hq4 with r | r | r | r
      · rcases hmm with rfl | rfl
        · exact Or.inl (Or.inr (Or.inl r))
        · exact Or.inl (Or.inr (Or.inr (Or.inr (Or.inl r))))
      · rcases hmm with rfl | rfl
        · exact Or.inl (Or.inr (Or.inr (Or.inl r)))
        · exact Or.inl (Or.inr (Or.inr (Or.inr (Or.inr r))))
      · rcases hkk with rfl | rfl
        · exact Or.inr (Or.inl r)
        · exact Or.inr (Or.inr (Or.inr (Or.inl r)))
      · rcases hkk with rfl | rfl
        · exact Or.inr (Or.inr (Or.inl r))
        · exact Or.inr (Or.inr (Or.inr (Or.inr r)))
  · have a1 := rI m1 ov
    have a2 := rO m1 ov
    have a3 := rI m2 ov
    have a4 := rO m2 ov
    have a5 := rI k1 (!ov)
    have a6 := rO k1 (!ov)
    have a7 := rI k2 (!ov)
    have a8 := rO k2 (!ov)
    rintro ((r | r | r | r | r) | r | r | r | r) <;> omega
/-- two places of one kind exchange their labels -/
theorem vd_swap {A g : Nat → Prop} {lab lab' : Nat → Nat} (h : Vd A g lab) {a b : Nat} (ha : A a) (hb : A b) (hg : g a ↔ g b) (l1 : ∀ x, A x → x ≠ a → x ≠ b → lab' x = lab x) (l2 : lab' a = lab b) (l3 : lab' b = lab a) : Vd A g lab' := by
  obtain ⟨h1, h2⟩ := h
  have key : ∀ x, A x → ∃ y, A y ∧ lab' x = lab y ∧ (g x ↔ g y) ∧ ((x = a ∧ y = b) ∨ (x = b ∧ y = a) ∨ (x ≠ a ∧ x ≠ b ∧ y = x)) := by
    intro x hx
    by_cases c1 : x = a
    · exact ⟨b, hb, by rw [c1, l2], by rw [c1]; exact hg, Or.inl ⟨c1, rfl⟩⟩
    · by_cases c2 : x = b
      · exact ⟨a, ha, by rw [c2, l3], by rw [c2]; exact hg.symm, Or.inr (Or.inl ⟨c2, rfl⟩)⟩
      · exact ⟨x, hx, l1 x hx c1 c2, Iff.rfl, Or.inr (Or.inr ⟨c1, c2, rfl⟩)⟩
  refine ⟨fun q r hq hr e k => ?_, fun q hq => ?_⟩
  · obtain ⟨q', a1, a2, a3, a4⟩ := key q hq
    obtain ⟨r', b1, b2, b3, b4⟩ := key r hr
    have := h1 q' r' a1 b1 (by rw [← a2, ← b2]; exact e) (a3.symm.trans (k.trans b3))
    omega
  · obtain ⟨q', a1, a2, a3, a4⟩ := key q hq
    obtain ⟨s, s1, s2, s3⟩ := h2 q' a1
    -- the place that now has the label of s
    have : ∃ t, A t ∧ lab' t = lab s ∧ (g t ↔ g s) := by
      by_cases c1 : s = a
      · exact ⟨b, hb, by rw [l3, c1], by rw [c1]; exact hg.symm⟩
      · by_cases c2 : s = b
        · exact ⟨a, ha, by rw [l2, c2], by rw [c2]; exact hg⟩
        · exact ⟨s, s1, l1 s s1 c1 c2, Iff.rfl⟩
    obtain ⟨t, t1, t2, t3⟩ := this
    exact ⟨t, t1, by rw [t2, s2, a2], fun z => s3 (a3.symm.trans (z.trans t3))⟩
