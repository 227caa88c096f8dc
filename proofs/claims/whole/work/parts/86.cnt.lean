/-! counting: pure -/
theorem cnt_mono {P Q : Nat → Prop} [DecidablePred P] [DecidablePred Q] : ∀ {N : Nat}, (∀ x, x < N → P x → Q x) → cnt P N ≤ cnt Q N
  | 0, _ => Nat.le_refl _
  | N + 1, h => by
    have ih := cnt_mono (P := P) (Q := Q) (N := N) (fun x hx => h x (by omega))
    rw [cnt, cnt]
    by_cases c : P N
    · rw [if_pos c, if_pos (h N (by omega) c)]; omega
    · rw [if_neg c]; omega
theorem cnt_more {P Q : Nat → Prop} [DecidablePred P] [DecidablePred Q] : ∀ {N a : Nat}, (∀ x, x < N → P x → Q x) → a < N → Q a → ¬ P a → cnt P N + 1 ≤ cnt Q N
  | 0, _, _, ha, _, _ => absurd ha (Nat.not_lt_zero _)
  | N + 1, a, h, ha, hq, hp => by
    rw [cnt, cnt]
    by_cases c : a = N
    · subst c
      have := cnt_mono (P := P) (Q := Q) (N := a) (fun x hx => h x (by omega))
      rw [if_neg hp, if_pos hq]; omega
    · have := cnt_more (P := P) (Q := Q) (N := N) (fun x hx => h x (by omega)) (by omega : a < N) hq hp
      by_cases d : P N
      · rw [if_pos d, if_pos (h N (by omega) d)]; omega
      · rw [if_neg d]; omega
theorem cnt_but1 {P Q : Nat → Prop} [DecidablePred P] [DecidablePred Q] : ∀ {N : Nat}, (∀ x y, x < y → y < N → P x → ¬ Q x → P y → ¬ Q y → False) → cnt P N ≤ cnt Q N ∨ ∃ a, a < N ∧ P a ∧ ¬ Q a ∧ cnt P N ≤ cnt Q N + 1
  | 0, _ => Or.inl (Nat.le_refl _)
  | N + 1, h => by
    have ih := cnt_but1 (P := P) (Q := Q) (N := N) (fun x y a b => h x y a (by omega))
    rw [cnt, cnt]
    by_cases c : P N
    · by_cases d : Q N
      · rw [if_pos c, if_pos d]
        rcases ih with ih | ⟨a, a1, a2, a3, a4⟩
        · exact Or.inl (by omega)
        · exact Or.inr ⟨a, by omega, a2, a3, by omega⟩
      · rw [if_pos c, if_neg d]
        rcases ih with ih | ⟨a, a1, a2, a3, a4⟩
        · exact Or.inr ⟨N, by omega, c, d, by omega⟩
        · exact (h a N a1 (by omega) a2 a3 c d).elim
    · rw [if_neg c]
      rcases ih with ih | ⟨a, a1, a2, a3, a4⟩
      · exact Or.inl (by omega)
      · exact Or.inr ⟨a, by omega, a2, a3, by omega⟩
theorem cnt_but {P Q : Nat → Prop} [DecidablePred P] [DecidablePred Q] {N : Nat} (h : ∀ x y, x < y → y < N → P x → ¬ Q x → P y → ¬ Q y → False) : cnt P N ≤ cnt Q N + 1 := by
  rcases cnt_but1 h with z | ⟨_, _, _, _, z⟩ <;> omega
theorem cnt_inj {P : Nat → Prop} [DecidablePred P] : ∀ (N : Nat) (Q : Nat → Prop) [DecidablePred Q] (h : Nat → Nat) (M : Nat), (∀ x, x < N → P x → h x < M ∧ Q (h x)) → (∀ x y, x < y → y < N → P x → P y → h x ≠ h y) → cnt P N ≤ cnt Q M
  | 0, _, _, _, _, _, _ => Nat.zero_le _
  | N + 1, Q, _, h, M, h1, h2 => by
    rw [cnt]
    by_cases c : P N
    · rw [if_pos c]
      obtain ⟨b1, b2⟩ := h1 N (by omega) c
      have ih := cnt_inj (P := P) N (fun y => Q y ∧ y ≠ h N) h M (fun x hx px => ⟨(h1 x (by omega) px).1, (h1 x (by omega) px).2, h2 x N hx (by omega) px c⟩) (fun x y a b => h2 x y a (by omega))
      have := cnt_more (P := fun y => Q y ∧ y ≠ h N) (Q := Q) (N := M) (fun x _ z => z.1) b1 b2 (fun z => z.2 rfl)
      omega
    · rw [if_neg c]
      exact cnt_inj (P := P) N Q h M (fun x hx => h1 x (by omega)) (fun x y a b => h2 x y a (by omega))
/-- how many values f has on A -/
def nv (A : Nat → Prop) [DecidablePred A] (f : Nat → Nat) (N : Nat) : Nat := cnt (fun x => A x ∧ ∀ y, y < x → A y → f y ≠ f x) N
section
variable {f g : Nat → Nat} {N : Nat}
theorem nv_le {A : Nat → Prop} [DecidablePred A] (h : ∀ x y, x < N → y < N → A x → A y → f x = f y → g x = g y) : nv A g N ≤ nv A f N :=
  cnt_mono (fun x hx q => ⟨q.1, fun y hy ay z => q.2 y hy ay (h y x (by omega) hx ay q.1 z)⟩)
theorem nv_B {A : Nat → Prop} [DecidablePred A] (v w : Nat) (h : ∀ x y, x < N → y < N → A x → A y → g x = g y → f x = f y ∨ ((f x = v ∨ f x = w) ∧ (f y = v ∨ f y = w))) : nv A f N ≤ nv A g N + 1 := by
  have ex : ∀ x, x < N → (A x ∧ ∀ y, y < x → A y → f y ≠ f x) → ¬ (A x ∧ ∀ y, y < x → A y → g y ≠ g x) → ∃ y, y < x ∧ A y ∧ f y ≠ f x ∧ (f y = v ∨ f y = w) ∧ (f x = v ∨ f x = w) := by
    intro x hx hp hq
    refine Classical.byContradiction (fun hno => hq ⟨hp.1, fun y hy ay z => ?_⟩)
    rcases h y x (by omega) hx ay hp.1 z with q | ⟨q1, q2⟩
    · exact hp.2 y hy ay q
    · exact hno ⟨y, hy, ay, hp.2 y hy ay, q1, q2⟩
  refine cnt_but (fun x y hxy hy px qx py qy => ?_)
  obtain ⟨x', a1, a2, a3, a4, a5⟩ := ex x (by omega) px qx
  obtain ⟨y', b1, b2, b3, b4, b5⟩ := ex y hy py qy
  have c1 := py.2 x hxy px.1
  have c2 := py.2 x' (by omega) a2
  rcases a4 with a4 | a4 <;> rcases a5 with a5 | a5 <;> rcases b5 with b5 | b5 <;> omega
theorem nv_first {A : Nat → Prop} [DecidablePred A] : ∀ a, A a → ∃ x, x ≤ a ∧ A x ∧ f x = f a ∧ ∀ y, y < x → A y → f y ≠ f x := by
  intro a
  induction a using Nat.strongRecOn with
  | _ a ih =>
    intro ha
    by_cases c : ∃ y, y < a ∧ A y ∧ f y = f a
    · obtain ⟨y, y1, y2, y3⟩ := c
      obtain ⟨x, x1, x2, x3, x4⟩ := ih y y1 y2
      exact ⟨x, by omega, x2, by rw [x3, y3], x4⟩
    · exact ⟨a, Nat.le_refl _, ha, rfl, fun y hy ay z => c ⟨y, hy, ay, z⟩⟩
theorem nv_C {A : Nat → Prop} [DecidablePred A] {a b : Nat} (ha : a < N) (hb : b < N) (Aa : A a) (Ab : A b) (h : ∀ x y, x < N → y < N → A x → A y → f x = f y → g x = g y) (hg : g a = g b) (hf : f a ≠ f b) : nv A g N + 1 ≤ nv A f N := by
  obtain ⟨x, x1, x2, x3, x4⟩ := nv_first (f := f) a Aa
  obtain ⟨y, y1, y2, y3, y4⟩ := nv_first (f := f) b Ab
  have e1 := h x a (by omega) ha x2 Aa x3
  have e2 := h y b (by omega) hb y2 Ab y3
  have hm : ∀ z, z < N → (A z ∧ ∀ y, y < z → A y → g y ≠ g z) → (A z ∧ ∀ y, y < z → A y → f y ≠ f z) := fun z hz q => ⟨q.1, fun t ht at_ w => q.2 t ht at_ (h t z (by omega) hz at_ q.1 w)⟩
  rcases Nat.lt_trichotomy x y with c | c | c
  · exact cnt_more hm (by omega : y < N) ⟨y2, y4⟩ (fun q => q.2 x c x2 (by rw [e1, e2, hg]))
  · rw [c] at x3; rw [x3] at y3; exact absurd y3 hf
  · exact cnt_more hm (by omega : x < N) ⟨x2, x4⟩ (fun q => q.2 y c y2 (by rw [e1, e2, hg]))
end
/-- f numbers the rounds of p in A -/
def Un (A : Nat → Prop) (p f : Nat → Nat) : Prop := (∀ x, A x → f (p x) = f x) ∧ ∀ g : Nat → Nat, (∀ x, A x → g (p x) = g x) → ∀ x y, A x → A y → f x = f y → g x = g y
theorem ff_univ {N : Nat} {nx : Nat → Nat} (hN : N < 2 ^ 31) (hp : Perm N nx) {g : Nat → Nat} (hg : ∀ x, x < N → g (nx x) = g x) : ∀ d, d ≤ N → ∀ x y, x < N → y < N → ¬ (FF nx N d).1 x < 0 → (FF nx N d).1 x = (FF nx N d).1 y → g x = g y
  | 0, _, x, y, _, _, h, _ => absurd (by decide : (-1 : Int32) < 0) h
  | d + 1, hd, x, y, hx, hy, h, he => by
    have ih := ff_univ hN hp hg d (by omega)
    have gi_ : ∀ {z : Nat}, z < N → ∀ i, g (it nx i z) = g z := by
      intro z hz i
      induction i with
      | zero => rfl
      | succ i ih => rw [it, hg _ (it_lt hp hz i)]; exact ih
    obtain ⟨g1, g2, g3, g4⟩ := ff_cl hN hp d (by omega)
    have hF := ff_le hN hp (d := d) (by omega)
    rw [FF] at h he
    by_cases c : (FF nx N d).1 d < 0
    · rw [if_pos c] at h he
      obtain ⟨t, t0, tb, td, t1, t2, tc, tw, tcl⟩ := walk_round (v := nI (FF nx N d).2) hp g1 (by omega : d < N) c (nI_pos (by omega))
      rw [tw] at h he
      dsimp only at h he
      have cases_ : ∀ z, z < N → (g z = g d ∧ gs nx (nI (FF nx N d).2) (FF nx N d).1 d t z = nI (FF nx N d).2) ∨ (gs nx (nI (FF nx N d).2) (FF nx N d).1 d t z = (FF nx N d).1 z) := by
        intro z hz
        by_cases q : ∃ a, a < t ∧ it nx a d = z
        · obtain ⟨a, a1, a2⟩ := q
          exact Or.inl ⟨by rw [← a2, gi_ (by omega) a], by rw [← a2]; exact gs_in a1⟩
        · exact Or.inr (gs_out (fun a ha z => q ⟨a, ha, z⟩))
      have fresh : ∀ z, (FF nx N d).1 z ≠ nI (FF nx N d).2 := by
        intro z q
        rcases g4 z with w | ⟨k, w1, w2⟩
        · rw [w] at q
          exact absurd (by rw [← q]; decide : nI (FF nx N d).2 < 0) (nI_pos (by omega))
        · rw [w2] at q
          have := (nI_eq (by omega) (by omega)).mp q
          omega
      rcases cases_ x hx with ⟨a1, a2⟩ | a2 <;> rcases cases_ y hy with ⟨b1, b2⟩ | b2
      · rw [a1, b1]
      · rw [a2, b2] at he; exact absurd he.symm (fresh y)
      · rw [a2, b2] at he; exact absurd he (fresh x)
      · rw [a2] at h; rw [a2, b2] at he; exact ih x y hx hy h he
    · rw [if_neg c] at h he
      exact ih x y hx hy h he
theorem un_ff {N : Nat} {nx : Nat → Nat} {A : Nat → Prop} (hN : N < 2 ^ 31) (hp : Perm N nx) (hA : ∀ x, A x → x < N) (hcl : ∀ x, x < N → (A (nx x) ↔ A x)) : Un A nx (fun x => ((FF nx N N).1 x).toInt.toNat) := by
  obtain ⟨g1, g2, g3, g4⟩ := ff_cl hN hp N (Nat.le_refl _)
  have hF := ff_le hN hp (d := N) (Nat.le_refl _)
  refine ⟨fun x hx => by dsimp only; rw [g1 x (hA x hx)], fun g hg x y hx hy he => ?_⟩
  dsimp only at he
  have n1 := g3 x (hA x hx)
  have n2 := g3 y (hA y hy)
  have e : (FF nx N N).1 x = (FF nx N N).1 y := by
    rcases g4 x with q | ⟨k, q1, q2⟩
    · rw [q] at n1; exact absurd (by decide) n1
    · rcases g4 y with r | ⟨k', r1, r2⟩
      · rw [r] at n2; exact absurd (by decide) n2
      · rw [q2, r2, nI_toInt (by omega), nI_toInt (by omega)] at he
        rw [q2, r2, show k = k' by omega]
  classical
  have key := ff_univ hN hp (g := fun z => if A z then g z + 1 else 0) (fun z hz => by
    by_cases c : A z
    · rw [if_pos c, if_pos ((hcl z hz).mpr c), hg z c]
    · rw [if_neg c, if_neg (fun q => c ((hcl z hz).mp q))]) N (Nat.le_refl _) x y (hA x hx) (hA y hy) n1 e
  rw [if_pos hx, if_pos hy] at key
  omega
theorem un_step {A : Nat → Prop} [DecidablePred A] {N a b : Nat} {p p' f f' : Nat → Nat} (hN : ∀ x, A x → x < N) (hA : ∀ x, A x → A (p x)) (ha : A a) (hb : A b) (hp' : ∀ x, A x → p' x = if p x = a then b else if p x = b then a else p x) (hU : Un A p f) (hU' : Un A p' f') :
    nv A f' N ≤ nv A f N + 1 ∧ (∀ m, it p (m + 1) a = a → f a ≠ f b → nv A f' N + 1 ≤ nv A f N) := by
  constructor
  · have hg : ∀ x, A x → (fun z => if f' z = f' b then f' a else f' z) (p x) = (fun z => if f' z = f' b then f' a else f' z) x := by
      intro x hx
      have e := hU'.1 x hx
      rw [hp' x hx] at e
      dsimp only
      by_cases c1 : p x = a
      · rw [if_pos c1] at e
        rw [c1, ← e, if_pos rfl]
        split <;> rfl
      · rw [if_neg c1] at e
        by_cases c2 : p x = b
        · rw [if_pos c2] at e
          rw [c2, if_pos rfl, ← e]
          split <;> rfl
        · rw [if_neg c2] at e
          rw [e]
    have h1 := nv_le (A := A) (N := N) (f := f) (g := fun z => if f' z = f' b then f' a else f' z) (fun x y _ _ ax ay q => hU.2 (fun z => if f' z = f' b then f' a else f' z) hg x y ax ay q)
    have h2 := nv_B (A := A) (N := N) (f := f') (g := fun z => if f' z = f' b then f' a else f' z) (f' a) (f' b) (fun x y _ _ ax ay q => by
      by_cases c1 : f' x = f' b <;> by_cases c2 : f' y = f' b
      · exact Or.inl (by rw [c1, c2])
      · rw [if_pos c1, if_neg c2] at q; exact Or.inr ⟨Or.inr c1, Or.inl q.symm⟩
      · rw [if_neg c1, if_pos c2] at q; exact Or.inr ⟨Or.inl q, Or.inr c2⟩
      · rw [if_neg c1, if_neg c2] at q; exact Or.inl q)
    omega
  · intro m hm hab
    have hab' : a ≠ b := fun z => hab (by rw [z])
    have key : ∀ j, A (it p j a) ∧ f (it p j a) = f a ∧ f' (it p j a) = f' a := by
      intro j
      induction j with
      | zero => exact ⟨ha, rfl, rfl⟩
      | succ j ih =>
        obtain ⟨i1, i2, i3⟩ := ih
        have e1 := hU.1 _ i1
        have e2 := hU'.1 _ i1
        rw [hp' _ i1] at e2
        refine ⟨hA _ i1, by rw [it, e1, i2], ?_⟩
        rw [it]
        by_cases c1 : p (it p j a) = a
        · rw [c1]
        · have c2 : p (it p j a) ≠ b := fun z => hab (by rw [← i2, ← e1, z])
          rw [if_neg c1, if_neg c2] at e2
          rw [e2, i3]
    have hfab : f' a = f' b := by
      obtain ⟨i1, i2, i3⟩ := key m
      have e2 := hU'.1 _ i1
      rw [it] at hm
      rw [hp' _ i1, if_pos hm, i3] at e2
      exact e2.symm
    have hinv : ∀ x, A x → f' (p x) = f' x := by
      intro x hx
      have e := hU'.1 x hx
      rw [hp' x hx] at e
      by_cases c1 : p x = a
      · rw [if_pos c1] at e
        rw [c1, hfab, e]
      · rw [if_neg c1] at e
        by_cases c2 : p x = b
        · rw [if_pos c2] at e
          rw [c2, ← hfab, e]
        · rw [if_neg c2] at e
          exact e
    exact nv_C (hN a ha) (hN b hb) ha hb (fun x y _ _ ax ay q => hU.2 _ hinv x y ax ay q) hfab hab
