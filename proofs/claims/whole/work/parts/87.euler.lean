/-! Euler: a piece of s crossings that hang together has at most s + 2 faces -/
/-- the same edge's other dart -/
def fl (x : Nat) : Nat := if x % 2 = 0 then x + 1 else x - 1
theorem fl_div (x : Nat) : fl x / 2 = x / 2 := by unfold fl; split <;> omega
theorem fl_inj {x y : Nat} (h : fl x = fl y) : x = y := by
  unfold fl at h
  split at h <;> split at h <;> omega
theorem fl_fl (x : Nat) : fl (fl x) = x := by
  unfold fl
  split <;> split <;> omega
theorem fl_lt {x n : Nat} (h : x < 4 * n) : fl x < 4 * n := by
  unfold fl
  split <;> omega
/-- the first i edges are joined, the others are ends -/
def pj (fr to_ at_ : Nat → Nat) (i d : Nat) : Nat := if nxD fr to_ at_ d / 2 < i then nxD fr to_ at_ d else fl (nxD fr to_ at_ d)
/-- the pieces, when the first i edges are joined -/
def oo (fr to_ : Nat → Nat) : Nat → Nat → Nat
  | 0, c => c
  | i + 1, c => if oo fr to_ i c = oo fr to_ i (to_ i / 4) then oo fr to_ i (fr i / 4) else oo fr to_ i c
section
variable {n : Nat} {lab : Nat → Nat} {S : Nat → Int32} {el fr to_ at_ oc : Nat → Nat}
theorem oo_edge : ∀ i j, j < i → oo fr to_ i (fr j / 4) = oo fr to_ i (to_ j / 4)
  | 0, j, h => absurd h (Nat.not_lt_zero j)
  | i + 1, j, h => by
    rw [oo, oo]
    by_cases c : j = i
    · subst c
      rw [if_pos rfl]
      split <;> rfl
    · rw [oo_edge i j (by omega)]
theorem oo_oc (hE : Ed n lab S el fr to_ at_) (hP : PcE (2 * n) n fr to_ oc) : ∀ i, i ≤ 2 * n → ∀ c, c < n → oc (oo fr to_ i c) = oc c ∧ oo fr to_ i c < n
  | 0, _, c, hc => ⟨rfl, hc⟩
  | i + 1, hi, c, hc => by
    have ih := oo_oc hE hP i (by omega)
    obtain ⟨f1, f2, -⟩ := hE.1 i (by omega)
    rw [oo]
    split
    · rename_i q
      have e1 := ih c hc
      have e2 := ih (to_ i / 4) (by omega)
      have e3 := ih (fr i / 4) (by omega)
      refine ⟨?_, e3.2⟩
      rw [e3.1, hP.2.1 i (by omega), ← e2.1, ← q, e1.1]
    · exact ih c hc
theorem ar_fl (hE : Ed n lab S el fr to_ at_) {q : Nat} (hq : q < 4 * n) : ar fr to_ (fl (lv fr at_ q)) = q := by
  obtain ⟨h1, h2⟩ := hE.2.2 q hq
  unfold lv
  by_cases c : fr (at_ q) = q
  · rw [if_pos c]
    rw [show fl (2 * at_ q) = 2 * at_ q + 1 by unfold fl; rw [if_pos (by omega)]]
    unfold ar
    rw [if_neg (by omega), show (2 * at_ q + 1) / 2 = at_ q by omega, c]
  · rw [if_neg c]
    have h3 : q = to_ (at_ q) := h2.resolve_left (fun z => c z.symm)
    rw [show fl (2 * at_ q + 1) = 2 * at_ q by unfold fl; rw [if_neg (by omega)]; omega]
    unfold ar
    rw [if_pos (by omega), show 2 * at_ q / 2 = at_ q by omega, ← h3]
theorem ar_nx (hE : Ed n lab S el fr to_ at_) {d : Nat} (hd : d < 4 * n) : ar fr to_ (fl (nxD fr to_ at_ d)) = rot (ar fr to_ d) := ar_fl hE (rot_lt (ar_lt hE hd))
theorem rot_div (q : Nat) : rot q / 4 = q / 4 := by unfold rot; omega
theorem ca_nx (hE : Ed n lab S el fr to_ at_) {d : Nat} (hd : d < 4 * n) : ca fr to_ (fl (nxD fr to_ at_ d)) = ca fr to_ d := by
  unfold ca
  rw [ar_nx hE hd, rot_div]
/-- the ends of a dart's edge: any word that edges share -/
theorem g_fl {g : Nat → Nat} {d : Nat} (h : g (fr (d / 2) / 4) = g (to_ (d / 2) / 4)) : g (ca fr to_ (fl d)) = g (ca fr to_ d) := by
  unfold ca ar
  rw [fl_div]
  have : (fl d % 2 = 0) ↔ ¬ d % 2 = 0 := by unfold fl; split <;> omega
  by_cases c : d % 2 = 0
  · rw [if_pos c, if_neg (fun z => this.mp z c)]; exact h
  · rw [if_neg c, if_pos (this.mpr c)]; exact h.symm
theorem pj_perm (hE : Ed n lab S el fr to_ at_) (i : Nat) : Perm (4 * n) (pj fr to_ at_ i) := by
  have hp := perm_D hE
  refine ⟨fun d hd => ?_, fun a b ha hb he => ?_⟩
  · have := hp.1 d hd
    unfold pj
    split
    · exact this
    · exact fl_lt this
  · refine hp.2 a b ha hb ?_
    have hd : ∀ x, pj fr to_ at_ i x / 2 = nxD fr to_ at_ x / 2 := by
      intro x
      unfold pj
      split
      · rfl
      · exact fl_div _
    have e := hd a
    rw [he, hd b] at e
    unfold pj at he
    rw [e] at he
    split at he
    · exact he
    · exact fl_inj he
theorem pj_oc (hE : Ed n lab S el fr to_ at_) (hP : PcE (2 * n) n fr to_ oc) (i : Nat) {d : Nat} (hd : d < 4 * n) : oc (ca fr to_ (pj fr to_ at_ i d)) = oc (ca fr to_ d) := by
  have hx := (perm_D hE).1 d hd
  have e := ca_nx hE hd
  have e2 := g_fl (g := oc) (d := nxD fr to_ at_ d) (hP.2.1 _ (by omega))
  unfold pj
  split
  · rw [← e2, e]
  · rw [e]
theorem pj_oo (hE : Ed n lab S el fr to_ at_) (i : Nat) {d : Nat} (hd : d < 4 * n) : oo fr to_ i (ca fr to_ (pj fr to_ at_ i d)) = oo fr to_ i (ca fr to_ d) := by
  have hx := (perm_D hE).1 d hd
  have e := ca_nx hE hd
  unfold pj
  split
  · rename_i c
    have e2 := g_fl (g := oo fr to_ i) (d := nxD fr to_ at_ d) (oo_edge i _ c)
    rw [← e2, e]
  · rw [e]
/-- the darts at piece k -/
abbrev dk (n : Nat) (fr to_ oc : Nat → Nat) (k x : Nat) : Prop := x < 4 * n ∧ oc (ca fr to_ x) = k
theorem dk_end (hP : PcE (2 * n) n fr to_ oc) {x : Nat} (hx : x < 4 * n) : oc (fr (x / 2) / 4) = oc (ca fr to_ x) := by
  unfold ca ar
  split
  · exact hP.2.1 _ (by omega)
  · rfl
theorem un_pj (hn : n ≤ 20) (hE : Ed n lab S el fr to_ at_) (hP : PcE (2 * n) n fr to_ oc) (k i : Nat) : ∃ f, Un (dk n fr to_ oc k) (pj fr to_ at_ i) f := by
  refine ⟨_, un_ff (N := 4 * n) (by omega) (pj_perm hE i) (fun x hx => hx.1) (fun x hx => ?_)⟩
  have h1 := (pj_perm hE i).1 x hx
  have h2 := pj_oc hE hP i hx
  constructor
  · exact fun z => ⟨hx, by rw [← h2]; exact z.2⟩
  · exact fun z => ⟨h1, by rw [h2]; exact z.2⟩
theorem rot_all {q r : Nat} (h : q / 4 = r / 4) : r = q ∨ r = rot q ∨ r = rot (rot q) ∨ r = rot (rot (rot q)) := by
  have e1 : rot q = 4 * (q / 4) + (q + 3) % 4 := rfl
  have e2 : rot (rot q) = 4 * (q / 4) + (q + 2) % 4 := by
    show 4 * (rot q / 4) + (rot q + 3) % 4 = _
    rw [rot_div, e1]; omega
  have e3 : rot (rot (rot q)) = 4 * (q / 4) + (q + 1) % 4 := by
    show 4 * (rot (rot q) / 4) + (rot (rot q) + 3) % 4 = _
    rw [rot_div, rot_div, e2]; omega
  rw [e3, e2, e1]
  omega
theorem eu_0 (hE : Ed n lab S el fr to_ at_) (hP : PcE (2 * n) n fr to_ oc) {k : Nat} {f : Nat → Nat} (hU : Un (dk n fr to_ oc k) (pj fr to_ at_ 0) f) : nv (dk n fr to_ oc k) f (4 * n) ≤ cnt (fun c => oc c = k) n := by
  have p0 : ∀ d, pj fr to_ at_ 0 d = fl (nxD fr to_ at_ d) := fun d => by unfold pj; rw [if_neg (Nat.not_lt_zero _)]
  have hcl : ∀ x, dk n fr to_ oc k x → dk n fr to_ oc k (pj fr to_ at_ 0 x) := fun x hx => ⟨(pj_perm hE 0).1 x hx.1, by rw [pj_oc hE hP 0 hx.1]; exact hx.2⟩
  have har : ∀ x, dk n fr to_ oc k x → ar fr to_ (pj fr to_ at_ 0 x) = rot (ar fr to_ x) := fun x hx => by rw [p0, ar_nx hE hx.1]
  have same : ∀ x y, dk n fr to_ oc k x → dk n fr to_ oc k y → ca fr to_ x = ca fr to_ y → f x = f y := by
    intro x y hx hy he
    have h1 := hcl x hx
    have h2 := hcl _ h1
    have h3 := hcl _ h2
    rcases rot_all he with z | z | z | z
    · rw [ar_inj hE hy.1 hx.1 z]
    · rw [← har x hx] at z
      rw [ar_inj hE hy.1 h1.1 z, hU.1 x hx]
    · rw [← har x hx, ← har _ h1] at z
      rw [ar_inj hE hy.1 h2.1 z, hU.1 _ h1, hU.1 x hx]
    · rw [← har x hx, ← har _ h1, ← har _ h2] at z
      rw [ar_inj hE hy.1 h3.1 z, hU.1 _ h2, hU.1 _ h1, hU.1 x hx]
  refine cnt_inj (4 * n) (fun c => oc c = k) (ca fr to_) n (fun x hx px => ⟨?_, px.1.2⟩) (fun x y hxy hy px py z => py.2 x hxy px.1 (same x y px.1 py.1 z))
  have := ar_lt hE hx
  unfold ca
  omega
theorem eu_edges (hE : Ed n lab S el fr to_ at_) (k : Nat) : cnt (fun e => oc (fr e / 4) = k) (2 * n) ≤ 2 * cnt (fun c => oc c = k) n := by
  have dbl : ∀ m, cnt (fun x => oc (x / 2) = k) (2 * m) = 2 * cnt (fun c => oc c = k) m := by
    intro m
    induction m with
    | zero => rfl
    | succ m ih =>
      rw [show 2 * (m + 1) = 2 * m + 1 + 1 by omega, cnt, cnt, cnt, ih, show (2 * m + 1) / 2 = m by omega, show 2 * m / 2 = m by omega]
      split <;> omega
  rw [← dbl n]
  refine cnt_inj (2 * n) (fun x => oc (x / 2) = k) (fun e => 2 * (fr e / 4) + (if fr e % 4 = 2 then 0 else 1)) (2 * n) (fun e he pe => ?_) (fun e e' h1 h2 _ _ z => ?_)
  · obtain ⟨f1, -⟩ := hE.1 e he
    constructor
    · split <;> omega
    · rw [show (2 * (fr e / 4) + (if fr e % 4 = 2 then 0 else 1)) / 2 = fr e / 4 by split <;> omega]; exact pe
  · obtain ⟨f1, -, -, -, f5, -⟩ := hE.1 e (by omega)
    obtain ⟨g1, -, -, -, g5, -⟩ := hE.1 e' (by omega)
    have hd : fr e / 4 = fr e' / 4 := by split at z <;> split at z <;> omega
    have a1 := ed_at_fr hE (e := e) (by omega)
    have a2 := ed_at_fr hE (e := e') h2
    unfold gi at f5 g5
    rw [← hd] at g5
    have hu : up S (fr e / 4) = 3 ∨ up S (fr e / 4) = 1 := by unfold up; split <;> omega
    have : fr e = fr e' := by split at z <;> split at z <;> omega
    rw [this, a2] at a1
    omega
theorem pj_next {i : Nat} {x : Nat} : pj fr to_ at_ (i + 1) x = if pj fr to_ at_ i x = 2 * i then 2 * i + 1 else if pj fr to_ at_ i x = 2 * i + 1 then 2 * i else pj fr to_ at_ i x := by
  unfold pj
  generalize nxD fr to_ at_ x = y
  have hf := fl_div y
  by_cases c : y / 2 < i
  · rw [if_pos c, if_pos (by omega), if_neg (by omega), if_neg (by omega)]
  · rw [if_neg c]
    by_cases d : y / 2 = i
    · rw [if_pos (by omega)]
      unfold fl
      by_cases e : y % 2 = 0
      · rw [if_pos e, if_neg (by omega), if_pos (by omega)]; omega
      · rw [if_neg e, if_pos (by omega)]; omega
    · rw [if_neg (by omega), if_neg (by omega), if_neg (by omega)]
theorem eu_inv (hn : n ≤ 20) (hE : Ed n lab S el fr to_ at_) (hP : PcE (2 * n) n fr to_ oc) (k : Nat) : ∀ i, i ≤ 2 * n → ∀ f, Un (dk n fr to_ oc k) (pj fr to_ at_ i) f → nv (dk n fr to_ oc k) f (4 * n) + cnt (fun c => oc c = k) n ≤ 2 * nv (fun c => oc c = k) (oo fr to_ i) n + cnt (fun e => oc (fr e / 4) = k) i
  | 0, _, f, hU => by
    have h1 := eu_0 hE hP hU
    have h2 : cnt (fun c => oc c = k) n ≤ nv (fun c => oc c = k) (oo fr to_ 0) n := cnt_mono (fun x _ hx => ⟨hx, fun y hy _ z => by rw [oo, oo] at z; omega⟩)
    omega
  | i + 1, hi, f', hU' => by
    have ih := eu_inv hn hE hP k i (by omega)
    obtain ⟨f1, f2, -⟩ := hE.1 i (by omega)
    rw [cnt]
    by_cases c : oc (fr i / 4) = k
    · rw [if_pos c]
      obtain ⟨f, hU⟩ := un_pj hn hE hP k i
      have hi1 := ih f hU
      have cb : ca fr to_ (2 * i + 1) = fr i / 4 := by
        unfold ca ar
        rw [if_neg (by omega), show (2 * i + 1) / 2 = i by omega]
      have cA : ca fr to_ (2 * i) = to_ i / 4 := by
        unfold ca ar
        rw [if_pos (by omega), show 2 * i / 2 = i by omega]
      have ha : dk n fr to_ oc k (2 * i) := ⟨by omega, by rw [cA, ← hP.2.1 i (by omega)]; exact c⟩
      have hb : dk n fr to_ oc k (2 * i + 1) := ⟨by omega, by rw [cb]; exact c⟩
      have hcl : ∀ x, dk n fr to_ oc k x → dk n fr to_ oc k (pj fr to_ at_ i x) := fun x hx => ⟨(pj_perm hE i).1 x hx.1, by rw [pj_oc hE hP i hx.1]; exact hx.2⟩
      obtain ⟨s1, s2⟩ := un_step (N := 4 * n) (fun x hx => hx.1) hcl ha hb (fun x _ => pj_next) hU hU'
      by_cases d : oo fr to_ i (fr i / 4) = oo fr to_ i (to_ i / 4)
      · have e : nv (fun c => oc c = k) (oo fr to_ i) n ≤ nv (fun c => oc c = k) (oo fr to_ (i + 1)) n := nv_le (fun x y _ _ _ _ q => by
          rw [oo, oo] at q
          split at q <;> split at q <;> omega)
        omega
      · have hne : f (2 * i) ≠ f (2 * i + 1) := by
          intro z
          have := hU.2 (fun x => oo fr to_ i (ca fr to_ x)) (fun x hx => pj_oo hE i hx.1) _ _ ha hb z
          rw [cA, cb] at this
          exact d this.symm
        obtain ⟨t, t0, tb, -⟩ := walk_round (f := fun _ => -1) (v := nI 0) (pj_perm hE i) (fun _ _ => rfl) ha.1 (by decide) (by decide)
        have s3 := s2 (t - 1) (by rw [show t - 1 + 1 = t by omega]; exact tb) hne
        have e : nv (fun c => oc c = k) (oo fr to_ i) n ≤ nv (fun c => oc c = k) (oo fr to_ (i + 1)) n + 1 := nv_B (oo fr to_ i (fr i / 4)) (oo fr to_ i (to_ i / 4)) (fun x y _ _ _ _ q => by
          rw [oo, oo] at q
          split at q <;> split at q <;> omega)
        omega
    · rw [if_neg c]
      have hsame : ∀ x, dk n fr to_ oc k x → pj fr to_ at_ (i + 1) x = pj fr to_ at_ i x := by
        intro x hx
        have hy := (pj_perm hE i).1 x hx.1
        have ho := pj_oc hE hP i hx.1
        rw [hx.2, ← dk_end hP hy] at ho
        rw [pj_next]
        have hne : pj fr to_ at_ i x / 2 ≠ i := fun z => c (by rw [z] at ho; exact ho)
        rw [if_neg (by omega), if_neg (by omega)]
      have hU : Un (dk n fr to_ oc k) (pj fr to_ at_ i) f' := ⟨fun x hx => by rw [← hsame x hx]; exact hU'.1 x hx, fun g hg => hU'.2 g (fun x hx => by rw [hsame x hx]; exact hg x hx)⟩
      have hi1 := ih f' hU
      have e : nv (fun c => oc c = k) (oo fr to_ i) n ≤ nv (fun c => oc c = k) (oo fr to_ (i + 1)) n := nv_le (fun x y hx hy ax ay q => by
        have k1 := oo_oc hE hP i (by omega) x hx
        have k2 := oo_oc hE hP i (by omega) y hy
        have k3 := oo_oc hE hP i (by omega) (to_ i / 4) (by omega)
        have k4 := hP.2.1 i (by omega)
        rw [oo, oo, if_neg (fun z => c (by rw [k4, ← k3.1, ← z, k1.1]; exact ax)), if_neg (fun z => c (by rw [k4, ← k3.1, ← z, k2.1]; exact ay))] at q
        exact q)
      omega
/-- at most two faces more than crossings -/
theorem eu_le (hn : n ≤ 20) (hE : Ed n lab S el fr to_ at_) (hP : PcE (2 * n) n fr to_ oc) (k : Nat) : cnt (fbg n fr to_ at_ oc k) (4 * n) ≤ cnt (fun c => oc c = k) n + 2 := by
  have hp := perm_D hE
  have hN : 4 * n < 2 ^ 31 := by omega
  have hcl : ∀ x, x < 4 * n → (dk n fr to_ oc k (nxD fr to_ at_ x) ↔ dk n fr to_ oc k x) := by
    intro x hx
    have h1 := hp.1 x hx
    have h2 := pj_oc hE hP (2 * n) hx
    unfold pj at h2
    rw [if_pos (by omega)] at h2
    constructor
    · exact fun z => ⟨hx, by rw [← h2]; exact z.2⟩
    · exact fun z => ⟨h1, by rw [h2]; exact z.2⟩
  have hU := un_ff (A := dk n fr to_ oc k) hN hp (fun x hx => hx.1) hcl
  have hsame : ∀ x, dk n fr to_ oc k x → pj fr to_ at_ (2 * n) x = nxD fr to_ at_ x := fun x hx => by
    have := hp.1 x hx.1
    unfold pj
    rw [if_pos (by omega)]
  have hU2 : Un (dk n fr to_ oc k) (pj fr to_ at_ (2 * n)) (fun x => ((FF (nxD fr to_ at_) (4 * n) (4 * n)).1 x).toInt.toNat) := ⟨fun x hx => by rw [hsame x hx]; exact hU.1 x hx, fun g hg => hU.2 g (fun x hx => by rw [← hsame x hx]; exact hg x hx)⟩
  have h1 := eu_inv hn hE hP k (2 * n) (Nat.le_refl _) _ hU2
  have h2 := eu_edges (oc := oc) hE k
  have h3 : nv (fun c => oc c = k) (oo fr to_ (2 * n)) n ≤ 1 := by
    have : nv (fun c => oc c = k) (oo fr to_ (2 * n)) n ≤ cnt (fun c => c = 0) 1 := by
      refine cnt_inj n (fun c => c = 0) (fun _ => 0) 1 (fun x _ _ => ⟨by omega, rfl⟩) (fun x y hxy hy px py _ => ?_)
      have u := hP.2.2 (oo fr to_ (2 * n)) (fun e he => oo_edge (2 * n) e he)
      have e1 := u x (by omega)
      have e2 := u y hy
      rw [px.1] at e1
      rw [py.1] at e2
      exact py.2 x hxy px.1 (by rw [e1, e2])
    exact this
  have h4 : cnt (fbg n fr to_ at_ oc k) (4 * n) ≤ nv (dk n fr to_ oc k) (fun x => ((FF (nxD fr to_ at_) (4 * n) (4 * n)).1 x).toInt.toNat) (4 * n) := by
    refine cnt_mono (fun x hx q => ⟨⟨hx, by rw [← dk_end hP hx]; exact q.2⟩, fun y hy ay z => ?_⟩)
    dsimp only at z
    have hf := ff_new hN hp hx q.1
    have hF := ff_le hN hp (d := x) (by omega)
    obtain ⟨j, j1, j2⟩ := ff_old hN hp (d := x) (x := y) (by omega) ((ff_cl hN hp x (by omega)).2.2.1 y hy)
    rw [hf, j2, nI_toInt (by omega), nI_toInt (by omega)] at z
    omega
  omega
end
/-- a sum over the roots -/
def sr (oc : Nat → Nat) (f : Nat → Nat) : Nat → Nat
  | 0 => 0
  | n + 1 => sr oc f n + (if oc n = n then f n else 0)
theorem sr_le {oc f g : Nat → Nat} : ∀ {n : Nat}, (∀ k, k < n → oc k = k → f k ≤ g k) → sr oc f n ≤ sr oc g n ∧ (sr oc f n = sr oc g n ↔ ∀ k, k < n → oc k = k → f k = g k)
  | 0, _ => ⟨Nat.le_refl _, fun _ k hk => absurd hk (Nat.not_lt_zero k), fun _ => rfl⟩
  | n + 1, h => by
    obtain ⟨i1, i2⟩ := sr_le (oc := oc) (f := f) (g := g) (n := n) (fun k hk => h k (by omega))
    rw [sr, sr]
    by_cases c : oc n = n
    · rw [if_pos c, if_pos c]
      have hn := h n (by omega) c
      refine ⟨by omega, fun z k hk hr => ?_, fun z => ?_⟩
      · by_cases e : k = n
        · rw [e]; omega
        · exact i2.mp (by omega) k (by omega) hr
      · rw [i2.mpr (fun k hk => z k (by omega)), z n (by omega) c]
    · rw [if_neg c, if_neg c]
      refine ⟨by omega, fun z k hk hr => ?_, fun z => ?_⟩
      · by_cases e : k = n
        · rw [e] at hr; exact absurd hr c
        · exact i2.mp (by omega) k (by omega) hr
      · rw [i2.mpr (fun k hk => z k (by omega))]
theorem sr_add {oc f g : Nat → Nat} : ∀ {n : Nat}, sr oc (fun k => f k + g k) n = sr oc f n + sr oc g n
  | 0 => rfl
  | n + 1 => by
    rw [sr, sr, sr, sr_add (n := n)]
    split <;> omega
theorem sr_two {oc : Nat → Nat} : ∀ {n : Nat}, sr oc (fun _ => 2) n = 2 * rc oc n
  | 0 => rfl
  | n + 1 => by
    rw [sr, rc, sr_two (n := n)]
    split <;> omega
theorem sr_zero {oc : Nat → Nat} : ∀ {n : Nat}, sr oc (fun _ => 0) n = 0
  | 0 => rfl
  | n + 1 => by rw [sr, sr_zero (n := n)]; split <;> rfl
theorem sr_one {oc : Nat → Nat} {r : Nat} (hr : oc r = r) : ∀ {n : Nat}, sr oc (fun k => if r = k then 1 else 0) n = if r < n then 1 else 0
  | 0 => rfl
  | n + 1 => by
    rw [sr, sr_one hr (n := n)]
    by_cases c : r = n
    · subst c
      rw [if_pos hr, if_pos rfl, if_neg (by omega), if_pos (by omega)]
    · have z0 : (if oc n = n then (if r = n then 1 else 0) else 0) = 0 := by rw [if_neg c]; split <;> rfl
      rw [z0]
      by_cases d : r < n
      · rw [if_pos d, if_pos (by omega)]
      · rw [if_neg d, if_neg (by omega)]
theorem sr_cnt {oc κ : Nat → Nat} {n : Nat} {P : Nat → Prop} [DecidablePred P] : ∀ {N : Nat}, (∀ j, j < N → κ j < n ∧ oc (κ j) = κ j) → sr oc (fun k => cnt (fun j => P j ∧ κ j = k) N) n = cnt P N
  | 0, _ => sr_zero
  | N + 1, h => by
    have ih := sr_cnt (P := P) (N := N) (fun j hj => h j (by omega))
    obtain ⟨h1, h2⟩ := h N (by omega)
    have e : sr oc (fun k => cnt (fun j => P j ∧ κ j = k) (N + 1)) n = sr oc (fun k => cnt (fun j => P j ∧ κ j = k) N) n + sr oc (fun k => if P N ∧ κ N = k then 1 else 0) n := sr_add (oc := oc) (f := fun k => cnt (fun j => P j ∧ κ j = k) N) (g := fun k => if P N ∧ κ N = k then 1 else 0) (n := n)
    rw [e, ih, cnt]
    by_cases c : P N
    · have : (fun k => if P N ∧ κ N = k then 1 else 0) = (fun k => if κ N = k then 1 else 0) := by
        funext k
        by_cases d : κ N = k
        · rw [if_pos d, if_pos ⟨c, d⟩]
        · rw [if_neg d, if_neg (fun z => d z.2)]
      rw [this, sr_one h2, if_pos h1, if_pos c]
    · have : (fun k => if P N ∧ κ N = k then 1 else 0) = (fun _ => 0) := by
        funext k
        rw [if_neg (fun z => c z.1)]
      rw [this, sr_zero, if_neg c]
theorem ff_cnt (nx : Nat → Nat) (N : Nat) : ∀ d, (FF nx N d).2 = cnt (fun j => (FF nx N j).1 j < 0) d
  | 0 => rfl
  | d + 1 => by
    rw [FF, cnt, ← ff_cnt nx N d]
    split <;> rfl
theorem euler {n : Nat} {lab : Nat → Nat} {S : Nat → Int32} {el fr to_ at_ oc : Nat → Nat} (hn : n ≤ 20) (hE : Ed n lab S el fr to_ at_) (hP : PcE (2 * n) n fr to_ oc) : (∀ k, k < n → oc k = k → cnt (fbg n fr to_ at_ oc k) (4 * n) = cnt (fun c => oc c = k) n + 2) ↔ (FF (nxD fr to_ at_) (4 * n) (4 * n)).2 = n + 2 * rc oc n := by
  have h := sr_le (oc := oc) (f := fun k => cnt (fbg n fr to_ at_ oc k) (4 * n)) (g := fun k => cnt (fun c => oc c = k) n + 2) (n := n) (fun k _ _ => eu_le hn hE hP k)
  have e1 : sr oc (fun k => cnt (fbg n fr to_ at_ oc k) (4 * n)) n = (FF (nxD fr to_ at_) (4 * n) (4 * n)).2 := by
    rw [ff_cnt]
    refine sr_cnt (κ := fun j => oc (fr (j / 2) / 4)) (fun j hj => ?_)
    obtain ⟨f1, -⟩ := hE.1 (j / 2) (by omega)
    have := hP.1 (fr (j / 2) / 4) (by omega)
    exact ⟨by omega, this.2⟩
  have e2 : sr oc (fun k => cnt (fun c => oc c = k) n) n = n := by
    have := sr_cnt (oc := oc) (κ := oc) (n := n) (P := fun _ => True) (N := n) (fun j hj => by
      have := hP.1 j hj
      exact ⟨by omega, this.2⟩)
    have h1 : (fun k => cnt (fun j => True ∧ oc j = k) n) = (fun k => cnt (fun c => oc c = k) n) := by
      funext k
      exact Nat.le_antisymm (cnt_mono (fun x _ z => z.2)) (cnt_mono (fun x _ z => ⟨trivial, z⟩))
    have h2 : ∀ m, cnt (fun _ => True) m = m := by
      intro m
      induction m with
      | zero => rfl
      | succ m ih => rw [cnt, ih, if_pos trivial]
    rw [h1, h2] at this
    exact this
  have e3 : sr oc (fun k => cnt (fun c => oc c = k) n + 2) n = n + 2 * rc oc n := by
    rw [sr_add (f := fun k => cnt (fun c => oc c = k) n) (g := fun _ => 2), e2, sr_two]
  rw [← h.2, e1, e3]
theorem flt_fq {k f : Nat} {plab : Nat → Nat} {T : Nat → Int32} (hk : k ≤ 20) (h : Flt k plab T f) : FQ k plab T f ∧ f ≤ 3 := by
  rcases h with ⟨rfl, h⟩ | ⟨rfl, h1, h2⟩ | ⟨rfl, h1, h2, el, fr, to_, at_, oc, hE, hP, h3⟩ | ⟨rfl, h1, h2, el, fr, to_, at_, oc, hE, hP, h3⟩
  · exact ⟨Or.inl ⟨rfl, h⟩, by omega⟩
  · exact ⟨Or.inr (Or.inl ⟨rfl, h1, h2⟩), by omega⟩
  · refine ⟨Or.inr (Or.inr ⟨el, fr, to_, at_, oc, hE, hP, Or.inr ⟨rfl, ?_⟩⟩), by omega⟩
    refine Classical.byContradiction (fun hno => h3 ((euler hk hE hP).mp (fun r h1 h2 => ?_)))
    exact Classical.byContradiction (fun z => hno ⟨r, h1, h2, z⟩)
  · exact ⟨Or.inr (Or.inr ⟨el, fr, to_, at_, oc, hE, hP, Or.inl ⟨rfl, (euler hk hE hP).mpr h3⟩⟩), by omega⟩
