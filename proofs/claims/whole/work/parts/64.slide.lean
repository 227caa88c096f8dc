/-! (1) and (2) behind SLIDE -/
theorem sE_out {el fr to_ lab X : Nat → Nat} {e q : Nat} (h1 : q ≠ fr e) (h2 : q ≠ ac (fr e)) (h3 : q ≠ to_ e) (h4 : q ≠ ac (to_ e)) : sE el fr to_ lab X e q = X q := by
  unfold sE
  rw [up_n h4, up_n h3, up_n h1, up_n h2]
theorem vd_sE {n : Nat} {lab X : Nat → Nat} {S : Nat → Int32} {el fr to_ at_ : Nat → Nat} (hE : Ed n lab S el fr to_ at_) {e : Nat} (he : e < 2 * n) (h : Vd (fun q => q < 4 * n) (gi S) X) (hne : fr e / 4 ≠ to_ e / 4) (x1 : X (fr e) = lab (fr e)) (x2 : X (ac (fr e)) = lab (ac (fr e))) (x3 : X (to_ e) = lab (to_ e)) (x4 : X (ac (to_ e)) = lab (ac (to_ e))) : Vd (fun q => q < 4 * n) (gi S) (sE el fr to_ lab X e) := by
  obtain ⟨b1, b2, b3, b4, b5, b6⟩ := hE.1 e he
  have d1 := ac_lt b1
  have d2 := ac_lt b2
  have n1 : ac (fr e) ≠ fr e := by unfold ac; omega
  have n2 : ac (to_ e) ≠ to_ e := by unfold ac; omega
  have n3 : fr e ≠ to_ e := fun z => hne (by rw [z])
  have n4 : ac (fr e) ≠ to_ e := fun z => hne (by rw [← ac_div (fr e), z])
  have n5 : ac (to_ e) ≠ fr e := fun z => hne (by rw [← z, ac_div])
  have n6 : ac (fr e) ≠ ac (to_ e) := fun z => hne (by rw [← ac_div (fr e), z, ac_div])
  have g1 : gi S (ac (fr e)) := (gi_ac S _).mpr b5
  have g2 : ¬ gi S (ac (to_ e)) := fun z => ((gi_ac S _).mp z) b6
  have s1 := vd_swap (lab' := va_up (va_up X (ac (fr e)) (X (to_ e))) (to_ e) (X (ac (fr e)))) h (a := ac (fr e)) (b := to_ e) d1 b2 ⟨fun _ => b6, fun _ => g1⟩ (fun x _ q1 q2 => by rw [up_n q2, up_n q1]) (by rw [up_n n4, up_s]) up_s
  generalize hm : va_up (va_up X (ac (fr e)) (X (to_ e))) (to_ e) (X (ac (fr e))) = Y at s1
  have y1 : Y (fr e) = X (fr e) := by rw [← hm, up_n n3, up_n (Ne.symm n1)]
  have y2 : Y (ac (to_ e)) = X (ac (to_ e)) := by rw [← hm, up_n n2, up_n (Ne.symm n6)]
  have y3 : Y (to_ e) = X (ac (fr e)) := by rw [← hm, up_s]
  have y4 : Y (ac (fr e)) = X (to_ e) := by rw [← hm, up_n n4, up_s]
  refine vd_swap s1 (a := fr e) (b := ac (to_ e)) b1 d2 ⟨fun z => absurd z b5, fun z => absurd z g2⟩ (fun x _ q1 q2 => ?_) ?_ ?_
  · unfold sE
    rw [up_n q2]
    by_cases c1 : x = to_ e
    · rw [c1, up_s, y3, x2]
    · rw [up_n c1, up_n q1]
      by_cases c2 : x = ac (fr e)
      · rw [c2, up_s, y4, x3, b4]
      · rw [up_n c2, ← hm, up_n c1, up_n c2]
  · unfold sE
    rw [up_n (Ne.symm n5), up_n n3, up_s, y2, x4]
  · unfold sE
    rw [up_s, y1, x1, b3]
/-- where a dart leaves -/
def dp (fr to_ : Nat → Nat) (d : Nat) : Nat := if d % 2 = 0 then fr (d / 2) else to_ (d / 2)
theorem ar_dp (fr to_ : Nat → Nat) (d : Nat) : (fr (d / 2) = dp fr to_ d ∧ to_ (d / 2) = ar fr to_ d) ∨ (fr (d / 2) = ar fr to_ d ∧ to_ (d / 2) = dp fr to_ d) := by
  unfold ar dp
  by_cases c : d % 2 = 0
  · rw [if_pos c, if_pos c]; exact Or.inl ⟨rfl, rfl⟩
  · rw [if_neg c, if_neg c]; exact Or.inr ⟨rfl, rfl⟩
theorem dp_nx {n : Nat} {lab : Nat → Nat} {S : Nat → Int32} {el fr to_ at_ : Nat → Nat} (hE : Ed n lab S el fr to_ at_) {d : Nat} (hd : d < 4 * n) : dp fr to_ (nxD fr to_ at_ d) = rot (ar fr to_ d) := by
  have h1 := rot_lt (ar_lt hE hd)
  obtain ⟨a1, a2⟩ := hE.2.2 _ h1
  unfold nxD lv dp
  by_cases c : fr (at_ (rot (ar fr to_ d))) = rot (ar fr to_ d)
  · rw [if_pos c, if_pos (by omega), show 2 * at_ (rot (ar fr to_ d)) / 2 = at_ (rot (ar fr to_ d)) by omega]
    exact c
  · rw [if_neg c, if_neg (by omega), show (2 * at_ (rot (ar fr to_ d)) + 1) / 2 = at_ (rot (ar fr to_ d)) by omega]
    rcases a2 with a2 | a2
    · exact absurd a2.symm c
    · exact a2.symm
theorem rb (q : Nat) : rot q ≠ q ∧ rot q ≠ ac q ∧ ac (rot q) ≠ q ∧ ac (rot q) ≠ ac q := by
  have h1 : rot q = 4 * (q / 4) + (q + 3) % 4 := rfl
  have h2 : ac q = 4 * (q / 4) + (q + 2) % 4 := rfl
  have h3 : ac (rot q) = 4 * (rot q / 4) + (rot q + 2) % 4 := rfl
  omega
set_option maxHeartbeats 1000000 in
theorem val_slide {n : Nat} {lab : Nat → Nat} {S : Nat → Int32} {el fr to_ at_ : Nat → Nat} (h : C1 n lab ∧ C2 n lab S) (hE : Ed n lab S el fr to_ at_) {d0 d1 d2 : Nat} (h0 : d0 < 4 * n) (e1 : d1 = nxD fr to_ at_ d0) (e2 : d2 = nxD fr to_ at_ d1) (e3 : nxD fr to_ at_ d2 = d0) (hc : ca fr to_ d0 ≠ ca fr to_ d1 ∧ ca fr to_ d1 ≠ ca fr to_ d2 ∧ ca fr to_ d0 ≠ ca fr to_ d2) :
    C1 n (sl3 el fr to_ lab (d0 / 2) (d1 / 2) (d2 / 2)) ∧ C2 n (sl3 el fr to_ lab (d0 / 2) (d1 / 2) (d2 / 2)) S := by
  have hp := perm_D hE
  have h1 : d1 < 4 * n := by rw [e1]; exact hp.1 _ h0
  have h2 : d2 < 4 * n := by rw [e2]; exact hp.1 _ h1
  have p1 : dp fr to_ d1 = rot (ar fr to_ d0) := by rw [e1]; exact dp_nx hE h0
  have p2 : dp fr to_ d2 = rot (ar fr to_ d1) := by rw [e2]; exact dp_nx hE h1
  have p0 : dp fr to_ d0 = rot (ar fr to_ d2) := by rw [← e3]; exact dp_nx hE h2
  have a0 := ar_dp fr to_ d0
  have a1 := ar_dp fr to_ d1
  have a2 := ar_dp fr to_ d2
  rw [p0] at a0
  rw [p1] at a1
  rw [p2] at a2
  unfold ca at hc
  generalize ar fr to_ d0 = q0 at hc a0 a1 a2
  generalize ar fr to_ d1 = q1 at hc a0 a1 a2
  generalize ar fr to_ d2 = q2 at hc a0 a1 a2
  -- the places of an edge: P, Q and those across
  have out : ∀ (i a b x : Nat), ((fr i = b ∧ to_ i = a) ∨ (fr i = a ∧ to_ i = b)) → x ≠ a → x ≠ b → x ≠ ac a → x ≠ ac b → ∀ X, sE el fr to_ lab X i x = X x := by
    intro i a b x hi x1 x2 x3 x4 X
    rcases hi with ⟨u, v⟩ | ⟨u, v⟩
    · exact sE_out (by rw [u]; exact x2) (by rw [u]; exact x4) (by rw [v]; exact x1) (by rw [v]; exact x3)
    · exact sE_out (by rw [u]; exact x1) (by rw [u]; exact x3) (by rw [v]; exact x2) (by rw [v]; exact x4)
  have vs := vd_iff.mp h
  have step : ∀ (i a b : Nat), i < 2 * n → ((fr i = b ∧ to_ i = a) ∨ (fr i = a ∧ to_ i = b)) → a / 4 ≠ b / 4 → ∀ X, Vd (fun q => q < 4 * n) (gi S) X → X a = lab a → X b = lab b → X (ac a) = lab (ac a) → X (ac b) = lab (ac b) → Vd (fun q => q < 4 * n) (gi S) (sE el fr to_ lab X i) := by
    intro i a b hi hab hne X hX x1 x2 x3 x4
    rcases hab with ⟨u, v⟩ | ⟨u, v⟩
    · exact vd_sE hE hi hX (by rw [u, v]; exact Ne.symm hne) (by rw [u]; exact x2) (by rw [u]; exact x4) (by rw [v]; exact x1) (by rw [v]; exact x3)
    · exact vd_sE hE hi hX (by rw [u, v]; exact hne) (by rw [u]; exact x1) (by rw [u]; exact x3) (by rw [v]; exact x2) (by rw [v]; exact x4)
  have rd : ∀ q, rot q / 4 = q / 4 := fun q => by unfold rot; omega
  have s0 := step (d0 / 2) q0 (rot q2) (by omega) a0 (by rw [rd]; exact hc.2.2) lab vs rfl rfl rfl rfl
  have far : ∀ {x y : Nat}, x / 4 ≠ y / 4 → x ≠ y := fun hh z => hh (by rw [z])
  have o01 : ∀ x, (x = q1 ∨ x = ac q1 ∨ x = rot q0 ∨ x = ac (rot q0)) → ∀ X, sE el fr to_ lab X (d0 / 2) x = X x := by
    intro x hx
    have hx2 : (x / 4 = q1 / 4) ∨ ((x = rot q0 ∨ x = ac (rot q0)) ∧ x / 4 = q0 / 4) := by
      rcases hx with z | z | z | z
      · exact Or.inl (by rw [z])
      · exact Or.inl (by rw [z, ac_div])
      · exact Or.inr ⟨Or.inl z, by rw [z, rd]⟩
      · exact Or.inr ⟨Or.inr z, by rw [z, ac_div, rd]⟩
    obtain ⟨r1, r2, r3, r4⟩ := rb q0
    rcases hx2 with z | ⟨z, y⟩
    · exact out (d0 / 2) q0 (rot q2) x a0 (far (by rw [z]; exact Ne.symm hc.1)) (far (by rw [z, rd]; exact hc.2.1)) (far (by rw [z, ac_div]; exact Ne.symm hc.1)) (far (by rw [z, ac_div, rd]; exact hc.2.1))
    · refine out (d0 / 2) q0 (rot q2) x a0 ?_ (far (by rw [y, rd]; exact hc.2.2)) ?_ (far (by rw [y, ac_div, rd]; exact hc.2.2))
      · rcases z with z | z <;> rw [z] <;> assumption
      · rcases z with z | z <;> rw [z] <;> assumption
  have o02 : ∀ x, (x = q2 ∨ x = ac q2 ∨ x = rot q1 ∨ x = ac (rot q1)) → ∀ X, sE el fr to_ lab X (d0 / 2) x = X x := by
    intro x hx
    have hx2 : (x / 4 = q1 / 4) ∨ ((x = q2 ∨ x = ac q2) ∧ x / 4 = q2 / 4) := by
      rcases hx with z | z | z | z
      · exact Or.inr ⟨Or.inl z, by rw [z]⟩
      · exact Or.inr ⟨Or.inr z, by rw [z, ac_div]⟩
      · exact Or.inl (by rw [z, rd])
      · exact Or.inl (by rw [z, ac_div, rd])
    obtain ⟨r1, r2, r3, r4⟩ := rb q2
    rcases hx2 with z | ⟨z, y⟩
    · exact out (d0 / 2) q0 (rot q2) x a0 (far (by rw [z]; exact Ne.symm hc.1)) (far (by rw [z, rd]; exact hc.2.1)) (far (by rw [z, ac_div]; exact Ne.symm hc.1)) (far (by rw [z, ac_div, rd]; exact hc.2.1))
    · refine out (d0 / 2) q0 (rot q2) x a0 (far (by rw [y]; exact Ne.symm hc.2.2)) ?_ (far (by rw [y, ac_div]; exact Ne.symm hc.2.2)) ?_
      · rcases z with z | z <;> rw [z] <;> exact Ne.symm (by assumption)
      · rcases z with z | z <;> rw [z] <;> exact Ne.symm (by assumption)
  have o12 : ∀ x, (x = q2 ∨ x = ac q2 ∨ x = rot q1 ∨ x = ac (rot q1)) → ∀ X, sE el fr to_ lab X (d1 / 2) x = X x := by
    intro x hx
    have hx2 : (x / 4 = q2 / 4) ∨ ((x = rot q1 ∨ x = ac (rot q1)) ∧ x / 4 = q1 / 4) := by
      rcases hx with z | z | z | z
      · exact Or.inl (by rw [z])
      · exact Or.inl (by rw [z, ac_div])
      · exact Or.inr ⟨Or.inl z, by rw [z, rd]⟩
      · exact Or.inr ⟨Or.inr z, by rw [z, ac_div, rd]⟩
    obtain ⟨r1, r2, r3, r4⟩ := rb q1
    rcases hx2 with z | ⟨z, y⟩
    · exact out (d1 / 2) q1 (rot q0) x a1 (far (by rw [z]; exact Ne.symm hc.2.1)) (far (by rw [z, rd]; exact Ne.symm hc.2.2)) (far (by rw [z, ac_div]; exact Ne.symm hc.2.1)) (far (by rw [z, ac_div, rd]; exact Ne.symm hc.2.2))
    · refine out (d1 / 2) q1 (rot q0) x a1 ?_ (far (by rw [y, rd]; exact Ne.symm hc.1)) ?_ (far (by rw [y, ac_div, rd]; exact Ne.symm hc.1))
      · rcases z with z | z <;> rw [z] <;> assumption
      · rcases z with z | z <;> rw [z] <;> assumption
  have s1 := step (d1 / 2) q1 (rot q0) (by omega) a1 (by rw [rd]; exact Ne.symm hc.1) _ s0 (o01 _ (Or.inl rfl) _) (o01 _ (Or.inr (Or.inr (Or.inl rfl))) _) (o01 _ (Or.inr (Or.inl rfl)) _) (o01 _ (Or.inr (Or.inr (Or.inr rfl))) _)
  have s2 := step (d2 / 2) q2 (rot q1) (by omega) a2 (by rw [rd]; exact Ne.symm hc.2.1) _ s1 ((o12 _ (Or.inl rfl) _).trans (o02 _ (Or.inl rfl) _)) ((o12 _ (Or.inr (Or.inr (Or.inl rfl))) _).trans (o02 _ (Or.inr (Or.inr (Or.inl rfl))) _)) ((o12 _ (Or.inr (Or.inl rfl)) _).trans (o02 _ (Or.inr (Or.inl rfl)) _)) ((o12 _ (Or.inr (Or.inr (Or.inr rfl))) _).trans (o02 _ (Or.inr (Or.inr (Or.inr rfl))) _))
  exact vd_iff.mpr s2
