/-! Pieces -/
abbrev pieH (pc co : Nat) (OC CE : Nat → Int32) : List zE := [zo 5 [.ref 1, .ref 2, .int (nI pc), .int (nI co)], za 20 OC, za 40 CE]
abbrev peH (pc co : Nat) (OC CE : Nat → Int32) (m : Nat) (PL LB FR TO AT : Nat → Int32) : List zE := [zo 5 [.ref 1, .ref 2, .int (nI pc), .int (nI co)], za 20 OC, za 40 CE, zo 3 [.ref 4, .ref 5, .ref 6, .ref 7, .ref 8, .int (nI m)], za 80 PL, za 40 LB, za 40 FR, za 40 TO, za 80 AT]
theorem jlo_N {a b : Nat} (ha : a < 2 ^ 31) (hb : b < 2 ^ 31) : jlo (nI a) (nI b) = nI (if b < a then b else a) := by
  unfold jlo
  by_cases c : b < a
  · rw [if_pos c, if_pos ((nI_ltI hb ha).mpr c)]
  · rw [if_neg c, if_neg (fun z => c ((nI_ltI hb ha).mp z))]
theorem jhi_N {a b : Nat} (ha : a < 2 ^ 31) (hb : b < 2 ^ 31) : jhi (nI a) (nI b) = nI (if a < b then b else a) := by
  unfold jhi
  by_cases c : a < b
  · rw [if_pos c, if_pos ((nI_ltI ha hb).mpr c)]
  · rw [if_neg c, if_neg (fun z => c ((nI_ltI ha hb).mp z))]
def un (oc : Nat → Nat) (lo hi : Nat) : Nat → Nat := fun c => if oc c = hi then lo else oc c
theorem m_Pie_unite (pc co : Nat) (OC CE : Nat → Int32) (oc : Nat → Nat) (n a b lo hi : Nat) (hn : n ≤ 20) (hO : ∀ c, c < n → OC c = nI (oc c) ∧ oc c ≤ c) (ha : a < n) (hb : b < n) (hab : a ≠ b) (hlo : (if b < a then b else a) = lo) (hhi : (if a < b then b else a) = hi) (hpc : 0 < pc) : zMet y_Pie_unite b_Pie_unite 7 none ⟨1, 0, 0, 24⟩ [.ref 0, .int (nI a), .int (nI b), .int (nI n)] (pieH pc co OC CE)
    (fun r h' => r = none ∧ ∃ OC' : Nat → Int32, h' = pieH (pc - 1) co OC' CE ∧ ∀ c, c < n → OC' c = nI (un oc lo hi c)) := by
  have hh : hi < n ∧ lo < hi := by rw [← hhi, ← hlo]; split <;> split <;> omega
  refine zMet_of (plainFor_of_name (by decide +kernel)) rfl (Nat.le_of_ble_eq_true rfl) (fun z1 z2 z3 z4 z5 z6 z7 z8 z9 z10 z11 z12 z13 z14 O hin => ?_)
  refine zi_ls (ls' := [some (.ref 0), some (.int (nI a)), some (.int (nI b)), some (.int (nI n)), none, none, none]) rfl ?_
  refine zi_iload_n O d_Pie_unite_0 rfl ?_
  refine zi_iload_n O d_Pie_unite_1 rfl ?_
  refine zi_icmp_neN O 6 d_Pie_unite_2 (by decide) (by omega) (by omega) (fun c2 => ?_) (fun c2 => ?_)
  · refine zi_iload_n O d_Pie_unite_6 rfl ?_
    refine zi_iload_n O d_Pie_unite_7 rfl ?_
    refine zi_pureS O [] c_Pie_43 k_Math_min (m_Math_min (nI a) (nI b)) d_Pie_unite_8 ⟨(Nat.le_of_ble_eq_true rfl), (Nat.le_of_ble_eq_true rfl)⟩ ⟨(Nat.le_of_ble_eq_true rfl), (Nat.le_of_ble_eq_true rfl)⟩ rfl (Nat.le_of_ble_eq_true rfl) rfl rfl rfl rfl rfl (Nat.le_of_ble_eq_true rfl) rfl ?_
    rw [jlo_N (by omega) (by omega), hlo]
    refine zi_istore (ls' := _ :: _ :: _ :: _ :: some _ :: _) O d_Pie_unite_11 rfl (by decide) rfl ?_
    refine zi_iload_n O d_Pie_unite_13 rfl ?_
    refine zi_iload_n O d_Pie_unite_14 rfl ?_
    refine zi_pureS O [] c_Pie_49 k_Math_max (m_Math_max (nI a) (nI b)) d_Pie_unite_15 ⟨(Nat.le_of_ble_eq_true rfl), (Nat.le_of_ble_eq_true rfl)⟩ ⟨(Nat.le_of_ble_eq_true rfl), (Nat.le_of_ble_eq_true rfl)⟩ rfl (Nat.le_of_ble_eq_true rfl) rfl rfl rfl rfl rfl (Nat.le_of_ble_eq_true rfl) rfl ?_
    rw [jhi_N (by omega) (by omega), hhi]
    refine zi_istore (ls' := _ :: _ :: _ :: _ :: _ :: some _ :: _) O d_Pie_unite_18 rfl (by decide) rfl ?_
    refine zi_iload O d_Pie_unite_20 rfl ?_
    refine zi_istore (ls' := _ :: _ :: _ :: _ :: _ :: _ :: some _ :: _) O d_Pie_unite_22 rfl (by decide) rfl ?_
    refine zi_loop (σ := Nat × (Nat → Int32)) (fun x => [some (.ref 0), some (.int (nI a)), some (.int (nI b)), some (.int (nI n)), some (.int (nI lo)), some (.int (nI hi)), some (.int (nI x.1))]) (fun x => pieH pc co x.2 CE) (fun x => hi ≤ x.1 ∧ x.1 ≤ n ∧ (∀ c, c < x.1 → c < n → x.2 c = nI (un oc lo hi c)) ∧ ∀ c, x.1 ≤ c → c < n → x.2 c = nI (oc c)) (fun x => n - x.1) (hi, OC) rfl rfl ⟨Nat.le_refl _, by dsimp only; omega, fun c h1 h2 => ?_, fun c h1 h2 => (hO c h2).1⟩ ?_
    · dsimp only at h1 ⊢
      have := hO c h2
      unfold un
      rw [if_neg (by omega)]
      exact this.1
    rintro ⟨k, OK⟩ ⟨k1, k2, k3, k4⟩ ih
    dsimp only at k1 k2 k3 k4 ih ⊢
    refine zi_iload O d_Pie_unite_24 rfl ?_
    refine zi_iload_n O d_Pie_unite_26 rfl ?_
    refine zi_icmp_geN O 57 d_Pie_unite_27 (by decide) (by omega) (by omega) (fun c27 => ?_) (fun c27 => ?_)
    · refine zi_aload_n O d_Pie_unite_57 rfl ?_
      refine zi_dup O d_Pie_unite_58 rfl ?_
      refine zi_get O f_Pie_26 d_Pie_unite_59 rfl rfl ?_
      refine zi_iconstN O 1 d_Pie_unite_62 (by decide) ?_
      first | refine zi_isubN O d_Pie_unite_63 (by omega) ?_ | refine zi_isub O d_Pie_unite_63 ?_
      refine zi_put O f_Pie_26 d_Pie_unite_64 rfl (Nat.le_of_ble_eq_true rfl) (fun _ => rfl) (fun _ => rfl) (by dsimp only [List.set]) ?_
      refine zi_vret O d_Pie_unite_67 (Nat.le_of_ble_eq_true rfl) (Nat.le_of_ble_eq_true rfl) (Nat.le_of_ble_eq_true rfl) ?_
      exact ⟨rfl, OK, rfl, fun c hc => k3 c (by omega) hc⟩
    · have h1 := k4 k (Nat.le_refl _) c27
      have h2 := hO k c27
      refine zi_aload_n O d_Pie_unite_30 rfl ?_
      refine zi_get O f_Pie_9 d_Pie_unite_31 rfl rfl ?_
      refine zi_iload O d_Pie_unite_34 rfl ?_
      refine zi_iald O d_Pie_unite_36 rfl rfl (by omega) (Nat.le_of_ble_eq_true rfl) ?_
      rw [h1]
      refine zi_iload O d_Pie_unite_37 rfl ?_
      refine zi_icmp_neN O 51 d_Pie_unite_39 (by decide) (by omega) (by omega) (fun c39 => ?_) (fun c39 => ?_)
      · refine zi_iincN (ls' := _ :: _ :: _ :: _ :: _ :: _ :: some _ :: _) O 1 d_Pie_unite_51 rfl (by decide) rfl (by decide) rfl ?_
        refine zi_goto O 24 d_Pie_unite_54 (by decide) ?_
        refine ih (k + 1, OK) ⟨by dsimp only; omega, by dsimp only; omega, fun c q1 q2 => ?_, fun c q1 q2 => k4 c (by dsimp only at q1; omega) q2⟩ (by dsimp only; omega)
        dsimp only at q1 ⊢
        by_cases e : c = k
        · rw [e, h1]; unfold un; rw [if_neg c39]
        · exact k3 c (by omega) q2
      · refine zi_aload_n O d_Pie_unite_42 rfl ?_
        refine zi_get O f_Pie_9 d_Pie_unite_43 rfl rfl ?_
        refine zi_iload O d_Pie_unite_46 rfl ?_
        refine zi_iload O d_Pie_unite_48 rfl ?_
        refine zi_iast O d_Pie_unite_50 rfl rfl (by omega) (Nat.le_of_ble_eq_true rfl) (by dsimp only [List.set]) ?_
        refine zi_iincN (ls' := _ :: _ :: _ :: _ :: _ :: _ :: some _ :: _) O 1 d_Pie_unite_51 rfl (by decide) rfl (by decide) rfl ?_
        refine zi_goto O 24 d_Pie_unite_54 (by decide) ?_
        refine ih (k + 1, upd OK k (nI lo)) ⟨by dsimp only; omega, by dsimp only; omega, fun c q1 q2 => ?_, fun c q1 q2 => ?_⟩ (by dsimp only; omega)
        · dsimp only at q1
          show upd OK k (nI lo) c = _
          by_cases e : c = k
          · rw [e, pk_us]; unfold un; rw [if_pos c39]
          · rw [pk_un e]; exact k3 c (by omega) q2
        · dsimp only at q1
          show upd OK k (nI lo) c = _
          rw [pk_un (by omega)]; exact k4 c (by omega) q2
  · omega
theorem m_Pie_unite_no (pc co : Nat) (OC CE : Nat → Int32) (n a : Nat) (hn : n ≤ 20) (ha : a < n) : zMet y_Pie_unite b_Pie_unite 7 none ⟨1, 0, 0, 24⟩ [.ref 0, .int (nI a), .int (nI a), .int (nI n)] (pieH pc co OC CE) (fun r h' => r = none ∧ h' = pieH pc co OC CE) := by
  refine zMet_of (plainFor_of_name (by decide +kernel)) rfl (Nat.le_of_ble_eq_true rfl) (fun z1 z2 z3 z4 z5 z6 z7 z8 z9 z10 z11 z12 z13 z14 O hin => ?_)
  refine zi_ls (ls' := [some (.ref 0), some (.int (nI a)), some (.int (nI a)), some (.int (nI n)), none, none, none]) rfl ?_
  refine zi_iload_n O d_Pie_unite_0 rfl ?_
  refine zi_iload_n O d_Pie_unite_1 rfl ?_
  refine zi_icmp_neN O 6 d_Pie_unite_2 (by decide) (by omega) (by omega) (fun c2 => ?_) (fun c2 => ?_)
  · exact absurd rfl c2
  · refine zi_vret O d_Pie_unite_5 (Nat.le_of_ble_eq_true rfl) (Nat.le_of_ble_eq_true rfl) (Nat.le_of_ble_eq_true rfl) ?_
    exact ⟨rfl, rfl⟩
/-- how many are their own piece's least -/
def rc (oc : Nat → Nat) : Nat → Nat
  | 0 => 0
  | n + 1 => rc oc n + (if oc n = n then 1 else 0)
theorem rc_id : ∀ n, rc (fun c => c) n = n
  | 0 => rfl
  | n + 1 => by rw [rc, rc_id n, if_pos rfl]
theorem rc_same {oc oc' : Nat → Nat} : ∀ {n : Nat}, (∀ c, c < n → (oc' c = c ↔ oc c = c)) → rc oc' n = rc oc n
  | 0, _ => rfl
  | n + 1, h => by
    rw [rc, rc, rc_same (n := n) (fun c hc => h c (by omega))]
    have := h n (by omega)
    by_cases c : oc n = n
    · rw [if_pos c, if_pos (this.mpr c)]
    · rw [if_neg c, if_neg (fun z => c (this.mp z))]
theorem rc_less {oc oc' : Nat → Nat} {hi : Nat} (hr : oc hi = hi) (hr' : ¬ oc' hi = hi) : ∀ {n : Nat}, hi < n → (∀ c, c < n → c ≠ hi → (oc' c = c ↔ oc c = c)) → rc oc' n + 1 = rc oc n
  | 0, h, _ => absurd h (Nat.not_lt_zero _)
  | n + 1, h, hh => by
    rw [rc, rc]
    by_cases c : hi = n
    · subst c
      rw [if_pos hr, if_neg hr', rc_same (oc := oc) (oc' := oc') (fun c hc => hh c (by omega) (by omega))]
    · have := rc_less hr hr' (n := n) (by omega) (fun c hc => hh c (by omega))
      have h2 := hh n (by omega) (fun z => c z.symm)
      by_cases c2 : oc n = n
      · rw [if_pos c2, if_pos (h2.mpr c2)]; omega
      · rw [if_neg c2, if_neg (fun z => c2 (h2.mp z))]; omega
/-- the least crossing of each piece -/
def PcE (k n : Nat) (fr to_ oc : Nat → Nat) : Prop := (∀ c, c < n → oc c ≤ c ∧ oc (oc c) = oc c) ∧ (∀ e, e < k → oc (fr e / 4) = oc (to_ e / 4)) ∧ ∀ g : Nat → Nat, (∀ e, e < 2 * n → g (fr e / 4) = g (to_ e / 4)) → ∀ c, c < n → g c = g (oc c)
theorem pcE_un {k n : Nat} {fr to_ oc : Nat → Nat} {a b lo hi : Nat} (hk : k < 2 * n) (hF : fr k < 4 * n) (hT : to_ k < 4 * n) (h : PcE k n fr to_ oc) (ha : a = oc (fr k / 4)) (hb : b = oc (to_ k / 4)) (hab : a ≠ b) (hlo : (if b < a then b else a) = lo) (hhi : (if a < b then b else a) = hi) : PcE (k + 1) n fr to_ (un oc lo hi) ∧ rc (un oc lo hi) n + 1 = rc oc n := by
  obtain ⟨h1, h2, h3⟩ := h
  have q1 := h1 (fr k / 4) (by omega)
  have q2 := h1 (to_ k / 4) (by omega)
  rw [← ha] at q1
  rw [← hb] at q2
  have hh : (lo = a ∧ hi = b) ∨ (lo = b ∧ hi = a) := by rw [← hhi, ← hlo]; split <;> split <;> omega
  have hlt : lo < hi := by rw [← hhi, ← hlo]; split <;> split <;> omega
  have hrl : oc lo = lo := by rcases hh with ⟨e, -⟩ | ⟨e, -⟩ <;> rw [e] <;> first | exact q1.2 | exact q2.2
  have hrh : oc hi = hi := by rcases hh with ⟨-, e⟩ | ⟨-, e⟩ <;> rw [e] <;> first | exact q1.2 | exact q2.2
  have hn : hi < n := by rcases hh with ⟨-, e⟩ | ⟨-, e⟩ <;> omega
  have uh : ∀ c, oc c = hi → un oc lo hi c = lo := fun c e => if_pos e
  have uo : ∀ c, oc c ≠ hi → un oc lo hi c = oc c := fun c e => if_neg e
  refine ⟨⟨fun c hc => ?_, fun e he => ?_, fun g hg c hc => ?_⟩, rc_less hrh (by rw [uh _ hrh]; omega) hn (fun c hc hne => ?_)⟩
  · have := h1 c hc
    by_cases e : oc c = hi
    · rw [uh c e]
      refine ⟨by omega, ?_⟩
      rw [uo lo (by rw [hrl]; omega), hrl]
    · rw [uo c e]
      refine ⟨this.1, ?_⟩
      rw [uo (oc c) (by rw [this.2]; exact e), this.2]
  · by_cases e2 : e = k
    · subst e2
      have x1 : oc (fr e / 4) = hi ∨ oc (fr e / 4) = lo := by rw [← ha]; rcases hh with ⟨u, v⟩ | ⟨u, v⟩ <;> omega
      have x2 : oc (to_ e / 4) = hi ∨ oc (to_ e / 4) = lo := by rw [← hb]; rcases hh with ⟨u, v⟩ | ⟨u, v⟩ <;> omega
      have y : ∀ c, oc c = hi ∨ oc c = lo → un oc lo hi c = lo := by
        intro c hc
        by_cases e3 : oc c = hi
        · exact uh c e3
        · rw [uo c e3]; rcases hc with hc | hc
          · exact absurd hc e3
          · exact hc
      rw [y _ x1, y _ x2]
    · have := h2 e (by omega)
      unfold un
      rw [this]
  · have gab : g a = g b := by
      have := hg k hk
      rw [h3 g hg (fr k / 4) (by omega), h3 g hg (to_ k / 4) (by omega), ← ha, ← hb] at this
      exact this
    have glh : g lo = g hi := by rcases hh with ⟨u, v⟩ | ⟨u, v⟩ <;> rw [u, v] <;> first | exact gab | exact gab.symm
    rw [h3 g hg c hc]
    by_cases e : oc c = hi
    · rw [uh c e, e, glh]
    · rw [uo c e]
  · by_cases e : oc c = hi
    · have := h1 c hc
      rw [uh c e, e]
      constructor <;> intro z <;> omega
    · rw [uo c e]
set_option maxHeartbeats 1000000 in
theorem m_Pie_findPieces {n : Nat} {lab : Nat → Nat} {S : Nat → Int32} {el fr to_ at_ : Nat → Nat} {LB FR TO AT : Nat → Int32} (hn : n ≤ 20) (h : Ed n lab S el fr to_ at_) (hA : EdA n el fr to_ at_ LB FR TO AT) (PL : Nat → Int32) (pc co : Nat) (OC CE : Nat → Int32) : zMet y_Pie_findPieces b_Pie_findPieces 4 none ⟨2, 0, 0, 60⟩ [.ref 0, .int (nI n), .ref 3] (peH pc co OC CE (2 * n) PL LB FR TO AT)
    (fun r h' => r = none ∧ ∃ (OC' : Nat → Int32) (oc : Nat → Nat), h' = peH (rc oc n) co OC' CE (2 * n) PL LB FR TO AT ∧ (∀ c, c < n → OC' c = nI (oc c)) ∧ PcE (2 * n) n fr to_ oc) := by
  refine zMet_of (plainFor_of_name (by decide +kernel)) rfl (Nat.le_of_ble_eq_true rfl) (fun z1 z2 z3 z4 z5 z6 z7 z8 z9 z10 z11 z12 z13 z14 O hin => ?_)
  refine zi_ls (ls' := [some (.ref 0), some (.int (nI n)), some (.ref 3), none]) rfl ?_
  refine zi_iconstN O 0 d_Pie_findPieces_0 (by decide) ?_
  refine zi_istore_n (ls' := _ :: _ :: _ :: some _ :: _) O d_Pie_findPieces_1 rfl (by decide) rfl ?_
  refine zi_loop (σ := Nat × (Nat → Int32)) (fun x => [some (.ref 0), some (.int (nI n)), some (.ref 3), some (.int (nI x.1))]) (fun x => peH pc co x.2 CE (2 * n) PL LB FR TO AT) (fun x => x.1 ≤ n ∧ ∀ c, c < x.1 → x.2 c = nI c) (fun x => n - x.1) (0, OC) rfl rfl ⟨Nat.zero_le _, fun c hc => absurd hc (Nat.not_lt_zero c)⟩ ?_
  rintro ⟨i, OK⟩ ⟨hi, hO⟩ ih
  dsimp only at hi hO ih ⊢
  refine zi_iload_n O d_Pie_findPieces_2 rfl ?_
  refine zi_iload_n O d_Pie_findPieces_3 rfl ?_
  refine zi_icmp_geN O 20 d_Pie_findPieces_4 (by decide) (by omega) (by omega) (fun c4 => ?_) (fun c4 => ?_)
  · refine zi_aload_n O d_Pie_findPieces_20 rfl ?_
    refine zi_iload_n O d_Pie_findPieces_21 rfl ?_
    refine zi_put O f_Pie_26 d_Pie_findPieces_22 rfl (Nat.le_of_ble_eq_true rfl) (fun _ => rfl) (fun _ => rfl) (by dsimp only [List.set]) ?_
    refine zi_iconstN O 0 d_Pie_findPieces_25 (by decide) ?_
    refine zi_istore_n (ls' := _ :: _ :: _ :: some _ :: _) O d_Pie_findPieces_26 rfl (by decide) rfl ?_
    refine zi_loop (σ := Nat × (Nat → Int32) × (Nat → Nat)) (fun x => [some (.ref 0), some (.int (nI n)), some (.ref 3), some (.int (nI x.1))]) (fun x => peH (rc x.2.2 n) co x.2.1 CE (2 * n) PL LB FR TO AT) (fun x => x.1 ≤ 2 * n ∧ (∀ c, c < n → x.2.1 c = nI (x.2.2 c)) ∧ PcE x.1 n fr to_ x.2.2) (fun x => 2 * n - x.1) (0, OK, fun c => c) rfl (by dsimp only; rw [rc_id]) ⟨Nat.zero_le _, fun c hc => hO c (by omega), ⟨fun c hc => ⟨Nat.le_refl _, rfl⟩, fun e he => absurd he (Nat.not_lt_zero e), fun g hg c hc => rfl⟩⟩ ?_
    rintro ⟨e, OE, oc⟩ ⟨he, hE, hP⟩ ih2
    dsimp only at he hE hP ih2 ⊢
    refine zi_iload_n O d_Pie_findPieces_27 rfl ?_
    refine zi_aload_n O d_Pie_findPieces_28 rfl ?_
    refine zi_get O f_Pie_30 d_Pie_findPieces_29 rfl rfl ?_
    refine zi_icmp_geN O 72 d_Pie_findPieces_32 (by decide) (by omega) (by omega) (fun c32 => ?_) (fun c32 => ?_)
    · refine zi_vret O d_Pie_findPieces_72 (Nat.le_of_ble_eq_true rfl) (Nat.le_of_ble_eq_true rfl) (Nat.le_of_ble_eq_true rfl) ?_
      have : e = 2 * n := by omega
      subst this
      exact ⟨rfl, OE, oc, rfl, hE, hP⟩
    · obtain ⟨b1, b2, -, -, -, -⟩ := h.1 e c32
      obtain ⟨-, a2, a3⟩ := hA.1 e c32
      have p1 := (hP.1 (fr e / 4) (by omega)).1
      have p2 := (hP.1 (to_ e / 4) (by omega)).1
      refine zi_aload_n O d_Pie_findPieces_35 rfl ?_
      refine zi_aload_n O d_Pie_findPieces_36 rfl ?_
      refine zi_get O f_Pie_9 d_Pie_findPieces_37 rfl rfl ?_
      refine zi_aload_n O d_Pie_findPieces_40 rfl ?_
      refine zi_get O f_Pie_33 d_Pie_findPieces_41 rfl rfl ?_
      refine zi_iload_n O d_Pie_findPieces_44 rfl ?_
      refine zi_iald O d_Pie_findPieces_45 rfl rfl (by omega) (Nat.le_of_ble_eq_true rfl) ?_
      rw [a2]
      refine zi_iconstN O 2 d_Pie_findPieces_46 (by decide) ?_
      first | refine zi_ishrN O 2 2 d_Pie_findPieces_47 (by decide) (by omega) ?_ | refine zi_ishrN O 1 1 d_Pie_findPieces_47 (by decide) (by omega) ?_
      refine zi_iald O d_Pie_findPieces_48 rfl rfl (by omega) (Nat.le_of_ble_eq_true rfl) ?_
      rw [hE _ (by omega)]
      refine zi_aload_n O d_Pie_findPieces_49 rfl ?_
      refine zi_get O f_Pie_9 d_Pie_findPieces_50 rfl rfl ?_
      refine zi_aload_n O d_Pie_findPieces_53 rfl ?_
      refine zi_get O f_Pie_36 d_Pie_findPieces_54 rfl rfl ?_
      refine zi_iload_n O d_Pie_findPieces_57 rfl ?_
      refine zi_iald O d_Pie_findPieces_58 rfl rfl (by omega) (Nat.le_of_ble_eq_true rfl) ?_
      rw [a3]
      refine zi_iconstN O 2 d_Pie_findPieces_59 (by decide) ?_
      first | refine zi_ishrN O 2 2 d_Pie_findPieces_60 (by decide) (by omega) ?_ | refine zi_ishrN O 1 1 d_Pie_findPieces_60 (by decide) (by omega) ?_
      refine zi_iald O d_Pie_findPieces_61 rfl rfl (by omega) (Nat.le_of_ble_eq_true rfl) ?_
      rw [hE _ (by omega)]
      refine zi_iload_n O d_Pie_findPieces_62 rfl ?_
      by_cases c : oc (fr e / 4) = oc (to_ e / 4)
      · rw [← c]
        refine zi_callV O [0, 1, 2] c_Pie_39 k_Pie_unite (m_Pie_unite_no (rc oc n) co OE CE n (oc (fr e / 4)) hn (by omega)) d_Pie_findPieces_63 ⟨(Nat.le_of_ble_eq_true rfl), (Nat.le_of_ble_eq_true rfl)⟩ ⟨(Nat.le_of_ble_eq_true rfl), (Nat.le_of_ble_eq_true rfl)⟩ rfl rfl (Nat.le_of_ble_eq_true rfl) rfl rfl rfl rfl rfl (Nat.le_of_ble_eq_true rfl) rfl (fun r h' hq hl => ?_)
        obtain ⟨rfl, rfl⟩ := hq
        refine zi_st (st' := []) rfl (zi_h (h' := peH (rc oc n) co OE CE (2 * n) PL LB FR TO AT) rfl ?_)
        refine zi_iincN (ls' := _ :: _ :: _ :: some _ :: _) O 1 d_Pie_findPieces_66 rfl (by decide) rfl (by decide) rfl ?_
        refine zi_goto O 27 d_Pie_findPieces_69 (by decide) ?_
        refine ih2 (e + 1, OE, oc) ⟨by dsimp only; omega, hE, hP.1, fun i hi => ?_, hP.2.2⟩ (by dsimp only; omega)
        by_cases e2 : i = e
        · rw [e2]; exact c
        · exact hP.2.1 i (by dsimp only at hi; omega)
      · obtain ⟨q1, q2⟩ := pcE_un c32 b1 b2 hP rfl rfl c rfl rfl
        refine zi_callV O [0, 1, 2] c_Pie_39 k_Pie_unite (m_Pie_unite (rc oc n) co OE CE oc n (oc (fr e / 4)) (oc (to_ e / 4)) _ _ hn (fun c hc => ⟨hE c hc, (hP.1 c hc).1⟩) (by omega) (by omega) c rfl rfl (by omega)) d_Pie_findPieces_63 ⟨(Nat.le_of_ble_eq_true rfl), (Nat.le_of_ble_eq_true rfl)⟩ ⟨(Nat.le_of_ble_eq_true rfl), (Nat.le_of_ble_eq_true rfl)⟩ rfl rfl (Nat.le_of_ble_eq_true rfl) rfl rfl rfl rfl rfl (Nat.le_of_ble_eq_true rfl) rfl (fun r h' hq hl => ?_)
        obtain ⟨rfl, OC', rfl, hO'⟩ := hq
        rw [show rc oc n - 1 = rc (un oc (if oc (to_ e / 4) < oc (fr e / 4) then oc (to_ e / 4) else oc (fr e / 4)) (if oc (fr e / 4) < oc (to_ e / 4) then oc (to_ e / 4) else oc (fr e / 4))) n by omega]
        refine zi_st (st' := []) rfl (zi_h (h' := peH (rc (un oc (if oc (to_ e / 4) < oc (fr e / 4) then oc (to_ e / 4) else oc (fr e / 4)) (if oc (fr e / 4) < oc (to_ e / 4) then oc (to_ e / 4) else oc (fr e / 4))) n) co OC' CE (2 * n) PL LB FR TO AT) rfl ?_)
        refine zi_iincN (ls' := _ :: _ :: _ :: some _ :: _) O 1 d_Pie_findPieces_66 rfl (by decide) rfl (by decide) rfl ?_
        refine zi_goto O 27 d_Pie_findPieces_69 (by decide) ?_
        exact ih2 (e + 1, OC', _) ⟨by dsimp only; omega, hO', q1⟩ (by dsimp only; omega)
  · refine zi_aload_n O d_Pie_findPieces_7 rfl ?_
    refine zi_get O f_Pie_9 d_Pie_findPieces_8 rfl rfl ?_
    refine zi_iload_n O d_Pie_findPieces_11 rfl ?_
    refine zi_iload_n O d_Pie_findPieces_12 rfl ?_
    refine zi_iast O d_Pie_findPieces_13 rfl rfl (by omega) (Nat.le_of_ble_eq_true rfl) (by dsimp only [List.set]) ?_
    refine zi_iincN (ls' := _ :: _ :: _ :: some _ :: _) O 1 d_Pie_findPieces_14 rfl (by decide) rfl (by decide) rfl ?_
    refine zi_goto O 2 d_Pie_findPieces_17 (by decide) ?_
    refine ih (i + 1, upd OK i (nI i)) ⟨by dsimp only; omega, fun c hc => ?_⟩ (by dsimp only; omega)
    dsimp only at hc
    show upd OK i (nI i) c = _
    by_cases e : c = i
    · rw [e, pk_us]
    · rw [pk_un e]; exact hO c (by omega)
