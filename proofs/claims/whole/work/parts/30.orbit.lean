/-! rounds of a permutation: pure -/
def it (nx : Nat → Nat) : Nat → Nat → Nat
  | 0, d => d
  | i + 1, d => nx (it nx i d)
def Perm (N : Nat) (nx : Nat → Nat) : Prop := (∀ d, d < N → nx d < N) ∧ ∀ a b, a < N → b < N → nx a = nx b → a = b
theorem it_lt {N : Nat} {nx : Nat → Nat} (h : Perm N nx) {d : Nat} (hd : d < N) : ∀ i, it nx i d < N
  | 0 => hd
  | i + 1 => h.1 _ (it_lt h hd i)
/-- how many of the first N are set -/
def cs (f : Nat → Int32) : Nat → Nat
  | 0 => 0
  | N + 1 => cs f N + (if f N < 0 then 0 else 1)
theorem cs_le (f : Nat → Int32) : ∀ N, cs f N ≤ N
  | 0 => Nat.le_refl _
  | N + 1 => by have := cs_le f N; rw [cs]; split <;> omega
theorem cs_lt {f : Nat → Int32} : ∀ {N d : Nat}, d < N → f d < 0 → cs f N < N
  | 0, _, h, _ => absurd h (Nat.not_lt_zero _)
  | N + 1, d, h, hf => by
    rw [cs]
    by_cases c : d = N
    · subst c; rw [if_pos hf]; have := cs_le f d; omega
    · have := cs_lt (N := N) (d := d) (by omega) hf
      split <;> omega
theorem cs_out {f : Nat → Int32} {d : Nat} {v : Int32} : ∀ {N : Nat}, N ≤ d → cs (upd f d v) N = cs f N
  | 0, _ => rfl
  | N + 1, h => by
    rw [cs, cs, cs_out (N := N) (by omega)]
    have : upd f d v N = f N := pk_un (by omega)
    rw [this]
theorem cs_upd {f : Nat → Int32} {d : Nat} {v : Int32} (hf : f d < 0) (hv : ¬ v < 0) : ∀ {N : Nat}, d < N → cs (upd f d v) N = cs f N + 1
  | 0, h => absurd h (Nat.not_lt_zero _)
  | N + 1, h => by
    rw [cs, cs]
    by_cases c : d = N
    · subst c
      rw [cs_out (Nat.le_refl _), pk_us, if_neg hv, if_pos hf]
    · have h1 : upd f d v N = f N := pk_un (by omega)
      rw [cs_upd hf hv (N := N) (by omega), h1]
      omega
def wk (nx : Nat → Nat) (v : Int32) : Nat → (Nat → Int32) → Nat → (Nat → Int32)
  | 0, f, _ => f
  | t + 1, f, d => if f d < 0 then wk nx v t (upd f d v) (nx d) else f
/-- from d on, as long as nothing is set, v is set -/
def Wk (nx : Nat → Nat) (v : Int32) (N : Nat) (f : Nat → Int32) (d : Nat) : Nat → Int32 := wk nx v (N - cs f N + 1) f d
theorem Wk_step {nx : Nat → Nat} {v : Int32} {N : Nat} {f : Nat → Int32} {d : Nat} (hd : d < N) (hf : f d < 0) (hv : ¬ v < 0) : Wk nx v N f d = Wk nx v N (upd f d v) (nx d) := by
  unfold Wk
  rw [wk, if_pos hf, cs_upd hf hv hd]
  have := cs_lt hd hf
  rw [show N - cs f N = N - (cs f N + 1) + 1 by omega]
theorem Wk_stop {nx : Nat → Nat} {v : Int32} {N : Nat} {f : Nat → Int32} {d : Nat} (hf : ¬ f d < 0) : Wk nx v N f d = f := by
  unfold Wk
  rw [wk, if_neg hf]
/-- the rounds, numbered by their least members -/
def FF (nx : Nat → Nat) (N : Nat) : Nat → (Nat → Int32) × Nat
  | 0 => (fun _ => -1, 0)
  | d + 1 => if (FF nx N d).1 d < 0 then (Wk nx (nI (FF nx N d).2) N (FF nx N d).1 d, (FF nx N d).2 + 1) else FF nx N d
def gs (nx : Nat → Nat) (v : Int32) (f : Nat → Int32) (d : Nat) : Nat → (Nat → Int32)
  | 0 => f
  | i + 1 => upd (gs nx v f d i) (it nx i d) v
theorem gs_in {nx : Nat → Nat} {v : Int32} {f : Nat → Int32} {d : Nat} : ∀ {i a : Nat}, a < i → gs nx v f d i (it nx a d) = v
  | 0, _, h => absurd h (Nat.not_lt_zero _)
  | i + 1, a, h => by
    rw [gs]
    unfold upd
    split
    · rfl
    · rename_i c
      have : a ≠ i := fun z => c (by rw [z])
      exact gs_in (i := i) (by omega)
theorem gs_out {nx : Nat → Nat} {v : Int32} {f : Nat → Int32} {d x : Nat} : ∀ {i : Nat}, (∀ a, a < i → it nx a d ≠ x) → gs nx v f d i x = f x
  | 0, _ => rfl
  | i + 1, h => by
    rw [gs]
    unfold upd
    rw [if_neg (fun z => h i (by omega) z.symm)]
    exact gs_out (fun a ha => h a (by omega))
/-- a round is closed at its begin -/
def Cl (N : Nat) (nx : Nat → Nat) (f : Nat → Int32) : Prop := ∀ x, x < N → f (nx x) = f x
theorem cl_it {N : Nat} {nx : Nat → Nat} {f : Nat → Int32} (hp : Perm N nx) (h : Cl N nx f) {d : Nat} (hd : d < N) : ∀ i, f (it nx i d) = f d
  | 0 => rfl
  | i + 1 => by rw [it, h _ (it_lt hp hd i)]; exact cl_it hp h hd i
theorem walk_all {N : Nat} {nx : Nat → Nat} {f : Nat → Int32} {v : Int32} (hp : Perm N nx) {d : Nat} (hd : d < N) (hf : f d < 0) (hv : ¬ v < 0) :
    ∃ t, 0 < t ∧ (∀ a, a < t → gs nx v f d a (it nx a d) < 0) ∧ ¬ gs nx v f d t (it nx t d) < 0 ∧ cs (gs nx v f d t) N = cs f N + t ∧ Wk nx v N f d = gs nx v f d t := by
  have key : ∀ (k i : Nat), N - cs (gs nx v f d i) N ≤ k → (∀ a, a < i → gs nx v f d a (it nx a d) < 0) → cs (gs nx v f d i) N = cs f N + i → Wk nx v N f d = Wk nx v N (gs nx v f d i) (it nx i d) →
      ∃ t, i ≤ t ∧ (∀ a, a < t → gs nx v f d a (it nx a d) < 0) ∧ ¬ gs nx v f d t (it nx t d) < 0 ∧ cs (gs nx v f d t) N = cs f N + t ∧ Wk nx v N f d = gs nx v f d t := by
    intro k
    induction k with
    | zero =>
      intro i hk ha hc hw
      by_cases c : gs nx v f d i (it nx i d) < 0
      · have := cs_lt (it_lt hp hd i) c; omega
      · exact ⟨i, Nat.le_refl _, ha, c, hc, by rw [hw, Wk_stop c]⟩
    | succ k ih =>
      intro i hk ha hc hw
      by_cases c : gs nx v f d i (it nx i d) < 0
      · have h1 := cs_lt (it_lt hp hd i) c
        have h2 := cs_upd (v := v) c hv (it_lt hp hd i)
        obtain ⟨t, t1, t2⟩ := ih (i + 1) (by rw [gs, h2]; omega) (fun a h => by
          by_cases c2 : a = i
          · rw [c2]; exact c
          · exact ha a (by omega)) (by rw [gs, h2]; omega) (by rw [hw, Wk_step (it_lt hp hd i) c hv]; rfl)
        exact ⟨t, by omega, t2⟩
      · exact ⟨i, Nat.le_refl _, ha, c, hc, by rw [hw, Wk_stop c]⟩
  obtain ⟨t, t1, t2, t3, t4⟩ := key N 0 (by omega) (fun a h => absurd h (Nat.not_lt_zero a)) rfl rfl
  refine ⟨t, ?_, t2, t3, t4⟩
  rcases Nat.eq_zero_or_pos t with z | z
  · rw [z] at t3; exact absurd hf t3
  · exact z
/-- the walk from a free member: a whole round, no member twice -/
theorem walk_round {N : Nat} {nx : Nat → Nat} {f : Nat → Int32} {v : Int32} (hp : Perm N nx) (hcl : Cl N nx f) {d : Nat} (hd : d < N) (hf : f d < 0) (hv : ¬ v < 0) :
    ∃ t, 0 < t ∧ it nx t d = d ∧ (∀ a b, a < b → b < t → it nx a d ≠ it nx b d) ∧ (∀ a, a < t → gs nx v f d a (it nx a d) < 0) ∧ ¬ gs nx v f d t (it nx t d) < 0 ∧ cs (gs nx v f d t) N = cs f N + t ∧ Wk nx v N f d = gs nx v f d t ∧ Cl N nx (gs nx v f d t) := by
  obtain ⟨t, t0, t1, t2, t3, t4⟩ := walk_all hp hd hf hv
  have hdis : ∀ a b, a < b → b < t → it nx a d ≠ it nx b d := by
    intro a b hab hb hz
    have := t1 b hb
    rw [← hz, gs_in hab] at this
    exact hv this
  have hback : it nx t d = d := by
    have h1 : ∃ a, a < t ∧ it nx a d = it nx t d := by
      apply Classical.byContradiction
      intro hno
      apply t2
      rw [gs_out (fun a ha z => hno ⟨a, ha, z⟩), cl_it hp hcl hd]
      exact hf
    obtain ⟨a, ha, hz⟩ := h1
    cases a with
    | zero => exact hz.symm
    | succ a =>
      exfalso
      cases t with
      | zero => omega
      | succ t =>
        have := hp.2 _ _ (it_lt hp hd a) (it_lt hp hd t) hz
        exact hdis a t (by omega) (by omega) this
  refine ⟨t, t0, hback, hdis, t1, t2, t3, t4, fun x hx => ?_⟩
  by_cases c : ∃ a, a < t ∧ it nx a d = x
  · obtain ⟨a, ha, rfl⟩ := c
    rw [gs_in ha]
    by_cases c2 : a + 1 = t
    · rw [show nx (it nx a d) = it nx (a + 1) d from rfl, c2, hback]
      exact gs_in (a := 0) t0
    · exact gs_in (a := a + 1) (by omega)
  · rw [gs_out (fun a ha z => c ⟨a, ha, z⟩), gs_out (fun a ha z => ?_), hcl x hx]
    cases a with
    | zero =>
      have hz : nx x = nx (it nx (t - 1) d) := by
        rw [show nx (it nx (t - 1) d) = it nx (t - 1 + 1) d from rfl, show t - 1 + 1 = t by omega, hback]; exact z.symm
      exact c ⟨t - 1, by omega, (hp.2 _ _ hx (it_lt hp hd _) hz).symm⟩
    | succ a => exact c ⟨a, by omega, hp.2 _ _ (it_lt hp hd a) hx z⟩
theorem ff_cl {N : Nat} {nx : Nat → Nat} (hN : N < 2 ^ 31) (hp : Perm N nx) : ∀ d, d ≤ N → Cl N nx (FF nx N d).1 ∧ (FF nx N d).2 ≤ cs (FF nx N d).1 N ∧ (∀ x, x < d → ¬ (FF nx N d).1 x < 0) ∧ ∀ x, (FF nx N d).1 x = -1 ∨ ∃ k, k < (FF nx N d).2 ∧ (FF nx N d).1 x = nI k
  | 0, _ => ⟨fun _ _ => rfl, Nat.zero_le _, fun x h => absurd h (Nat.not_lt_zero x), fun x => Or.inl rfl⟩
  | d + 1, h => by
    obtain ⟨h1, h2, h3, h4⟩ := ff_cl hN hp d (by omega)
    rw [FF]
    by_cases c : (FF nx N d).1 d < 0
    · rw [if_pos c]
      have hle := cs_le (FF nx N d).1 N
      obtain ⟨t, t0, t1, t2, t3, t4, t5, t6, t7⟩ := walk_round (v := nI (FF nx N d).2) hp h1 (by omega) c (nI_pos (by omega))
      dsimp only
      rw [t6]
      refine ⟨t7, by omega, fun x hx => ?_, fun x => ?_⟩
      · by_cases c2 : ∃ a, a < t ∧ it nx a d = x
        · obtain ⟨a, ha, rfl⟩ := c2
          rw [gs_in ha]; exact nI_pos (by omega)
        · rw [gs_out (fun a ha z => c2 ⟨a, ha, z⟩)]
          exact h3 x (by
            have : x ≠ d := fun z => c2 ⟨0, t0, z.symm⟩
            omega)
      · by_cases c2 : ∃ a, a < t ∧ it nx a d = x
        · obtain ⟨a, ha, rfl⟩ := c2
          right; exact ⟨(FF nx N d).2, by omega, gs_in ha⟩
        · rw [gs_out (fun a ha z => c2 ⟨a, ha, z⟩)]
          rcases h4 x with q | ⟨k, q1, q2⟩
          · exact Or.inl q
          · exact Or.inr ⟨k, by omega, q2⟩
    · rw [if_neg c]
      refine ⟨h1, h2, fun x hx => ?_, h4⟩
      by_cases c2 : x = d
      · rw [c2]; exact c
      · exact h3 x (by omega)
theorem cs_gs {N : Nat} {nx : Nat → Nat} {f : Nat → Int32} {v : Int32} (hp : Perm N nx) {d t : Nat} (hd : d < N) (hv : ¬ v < 0) (h : ∀ a, a < t → gs nx v f d a (it nx a d) < 0) : ∀ i, i ≤ t → cs (gs nx v f d i) N = cs f N + i
  | 0, _ => rfl
  | i + 1, hi => by
    rw [gs, cs_upd (h i (by omega)) hv (it_lt hp hd i), cs_gs hp hd hv h i (by omega)]
    omega
