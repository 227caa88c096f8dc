/-! The model: hang, pieces -/
/-- the least crossing of each piece, by labels -/
def Pcl (n : Nat) (lab oc : Nat → Nat) : Prop := (∀ c, c < n → oc c ≤ c) ∧ (∀ a b, a < 4 * n → b < 4 * n → lab a = lab b → oc (a / 4) = oc (b / 4)) ∧ ∀ g : Nat → Nat, (∀ a b, a < 4 * n → b < 4 * n → lab a = lab b → g (a / 4) = g (b / 4)) → ∀ c, c < n → g c = g (oc c)
def Pcg (n : Nat) (lab oc : Nat → Nat) : Prop := (∀ c, c < n → oc c ≤ c) ∧ ∀ g : Nat → Nat, (∀ a b, a < 4 * n → b < 4 * n → lab a = lab b → g (a / 4) = g (b / 4)) → ∀ c, c < n → g c = g (oc c)
theorem pcl_uniq {n : Nat} {lab : Nat → Nat} {S : Nat → Int32} {el fr to_ at_ oc oc' : Nat → Nat} (h : Ed n lab S el fr to_ at_) (hP : PcE (2 * n) n fr to_ oc) (hL : Pcl n lab oc') : ∀ c, c < n → oc' c = oc c := by
  obtain ⟨h1, h2, h3⟩ := hP
  obtain ⟨l1, l2, l3⟩ := hL
  have a1 : ∀ e, e < 2 * n → oc' (fr e / 4) = oc' (to_ e / 4) := fun e he => by
    obtain ⟨f1, f2, f3, f4, -⟩ := h.1 e he
    exact l2 _ _ f1 f2 (f3.trans f4.symm)
  have a2 : ∀ a b, a < 4 * n → b < 4 * n → lab a = lab b → oc (a / 4) = oc (b / 4) := by
    intro a b ha hb hl
    obtain ⟨p1, p2⟩ := h.2.2 a ha
    obtain ⟨q1, q2⟩ := h.2.2 b hb
    have e : at_ a = at_ b := el_inj h p1 q1 (by rw [← lab_at h ha, ← lab_at h hb, hl])
    rw [← e] at q2
    have := h2 _ p1
    rcases p2 with p2 | p2 <;> rcases q2 with q2 | q2 <;> rw [p2, q2] <;> first | rfl | exact this | exact this.symm
  intro c hc
  have b1 := h3 oc' a1 c hc
  have b2 := l1 (oc c) (by have := (h1 c hc).1; omega)
  have b3 := l3 oc a2 c hc
  have b4 := (h1 (oc' c) (by have := l1 c hc; omega)).1
  omega
def sm (f : Nat → Nat) : Nat → Nat
  | 0 => 0
  | n + 1 => sm f n + f n
theorem sm_same {f g : Nat → Nat} : ∀ {n : Nat}, (∀ c, c < n → f c = g c) → sm f n = sm g n
  | 0, _ => rfl
  | n + 1, h => by rw [sm, sm, sm_same (n := n) (fun c hc => h c (by omega)), h n (by omega)]
theorem sm_less {f : Nat → Nat} {c v : Nat} (hv : v < f c) : ∀ {n : Nat}, c < n → sm (va_up f c v) n < sm f n
  | 0, h => absurd h (Nat.not_lt_zero _)
  | n + 1, h => by
    rw [sm, sm]
    by_cases e : c = n
    · subst e
      rw [up_s, sm_same (f := va_up f c v) (g := f) (fun q hq => up_n (by omega))]
      omega
    · rw [up_n (fun z => e z.symm)]
      have := sm_less hv (n := n) (by omega)
      omega
theorem pcg_up {n : Nat} {lab oc : Nat → Nat} (h : Pcg n lab oc) {a b : Nat} (ha : a < 4 * n) (hb : b < 4 * n) (hl : lab a = lab b) (hlt : oc (a / 4) < oc (b / 4)) : Pcg n lab (va_up oc (b / 4) (oc (a / 4))) := by
  refine ⟨fun c hc => ?_, fun g hg c hc => ?_⟩
  · by_cases e : c = b / 4
    · rw [e, up_s]
      have := h.1 (b / 4) (by omega)
      omega
    · rw [up_n e]; exact h.1 c hc
  · by_cases e : c = b / 4
    · rw [e, up_s, ← h.2 g hg (a / 4) (by omega)]
      exact (hg a b ha hb hl).symm
    · rw [up_n e]; exact h.2 g hg c hc
section
variable {put n oN labs closed faces sides : Nat} {wrong ci oC : Int32} {pS pL S L oS oL row fresh piece comp fof side free arnd : Nat → Int32}
set_option maxHeartbeats 1000000 in
theorem m_Mod_hang {lab : Nat → Nat} (hR : RowOK n L lab) : zMet y_Mod_hang b_Mod_hang 4 none ⟨0, 0, 0, 0⟩ [.ref 0] (mh put wrong pS pL n ci oN oC S L oS oL labs row fresh piece closed faces comp fof sides side free arnd)
    (fun r h' => r = none ∧ ∃ (piece' : Nat → Int32) (oc : Nat → Nat), h' = (mh put wrong pS pL n ci oN oC S L oS oL labs row fresh piece' closed faces comp fof sides side free arnd) ∧ (∀ c, c < n → piece' c = nI (oc c)) ∧ Pcl n lab oc) := by
  obtain ⟨hn, hL⟩ := hR
  refine zMet_of (plainFor_of_name (by decide +kernel)) rfl (Nat.le_of_ble_eq_true rfl) (fun z1 z2 z3 z4 z5 z6 z7 z8 z9 z10 z11 z12 z13 z14 O hin => ?_)
  refine zi_ls (ls' := [some (.ref 0), none, none, none]) rfl ?_
  refine zi_iconstN O 0 d_Mod_hang_0 (by decide) ?_
  refine zi_istore_n (ls' := _ :: some _ :: _) O d_Mod_hang_1 rfl (by decide) rfl ?_
  refine zi_loop (σ := Nat × (Nat → Int32)) (fun x => [some (.ref 0), some (.int (nI x.1)), none, none]) (fun x => (mh put wrong pS pL n ci oN oC S L oS oL labs row fresh (x.2) closed faces comp fof sides side free arnd)) (fun x => x.1 ≤ n ∧ ∀ c, c < x.1 → x.2 c = nI c) (fun x => n - x.1) (0, piece) rfl rfl ⟨Nat.zero_le _, fun c hc => absurd hc (Nat.not_lt_zero c)⟩ ?_
  rintro ⟨i, C⟩ ⟨hi, hC⟩ ih
  dsimp only at hi hC ih ⊢
  refine zi_iload_n O d_Mod_hang_2 rfl ?_
  refine zi_aload_n O d_Mod_hang_3 rfl ?_
  refine zi_get O f_Mod_59 d_Mod_hang_4 rfl rfl ?_
  refine zi_icmp_geN O 23 d_Mod_hang_7 (by decide) (by omega) (by omega) (fun c7 => ?_) (fun c7 => ?_)
  · refine zi_iconstN O 1 d_Mod_hang_23 (by decide) ?_
    refine zi_istore_n (ls' := _ :: some _ :: _) O d_Mod_hang_24 rfl (by decide) rfl ?_
    refine zi_loop (σ := Nat × (Nat → Int32) × (Nat → Nat)) (fun x => [some (.ref 0), some (.int (nI x.1)), none, none]) (fun x => (mh put wrong pS pL n ci oN oC S L oS oL labs row fresh (x.2.1) closed faces comp fof sides side free arnd)) (fun x => (x.1 = 0 ∨ x.1 = 1) ∧ (∀ c, c < n → x.2.1 c = nI (x.2.2 c)) ∧ Pcg n lab x.2.2 ∧ (x.1 = 0 → ∀ a b, a < 4 * n → b < 4 * n → lab a = lab b → x.2.2 (b / 4) ≤ x.2.2 (a / 4))) (fun x => if x.1 = 0 then 0 else sm x.2.2 n + 1) (1, C, fun c => c) rfl rfl ⟨Or.inr rfl, fun c hc => hC c (by omega), ⟨fun c hc => Nat.le_refl _, fun g hg c hc => rfl⟩, fun z => absurd z (by show ¬ (1 : Nat) = 0; decide)⟩ ?_
    rintro ⟨w, P, oc⟩ ⟨hw, hP, hg, h0⟩ ih2
    dsimp only at hw hP hg h0 ih2 ⊢
    refine zi_iload_n O d_Mod_hang_25 rfl ?_
    refine zi_if_eq O 122 d_Mod_hang_26 (by decide) (fun c26 => ?_) (fun c26 => ?_)
    · have hw0 : w = 0 := by
        rcases hw with hw | hw
        · exact hw
        · rw [hw] at c26; exact absurd c26 (by decide)
      refine zi_vret O d_Mod_hang_122 (Nat.le_of_ble_eq_true rfl) (Nat.le_of_ble_eq_true rfl) (Nat.le_of_ble_eq_true rfl) ?_
      refine ⟨rfl, P, oc, rfl, hP, hg.1, fun a b ha hb hl => ?_, hg.2⟩
      have q1 := h0 hw0 a b ha hb hl
      have q2 := h0 hw0 b a hb ha hl.symm
      omega
    · have hw1 : w = 1 := by
        rcases hw with hw | hw
        · rw [hw] at c26; exact absurd rfl c26
        · exact hw
      rw [if_neg (show ¬ w = 0 by omega)] at ih2
      refine zi_iconstN O 0 d_Mod_hang_29 (by decide) ?_
      refine zi_istore_n (ls' := _ :: some _ :: _) O d_Mod_hang_30 rfl (by decide) rfl ?_
      refine zi_iconstN O 0 d_Mod_hang_31 (by decide) ?_
      refine zi_istore_n (ls' := _ :: _ :: some _ :: _) O d_Mod_hang_32 rfl (by decide) rfl ?_
      refine zi_loop (σ := Nat × Nat × (Nat → Int32) × (Nat → Nat)) (fun x => [some (.ref 0), some (.int (nI x.2.1)), some (.int (nI x.1)), none]) (fun x => (mh put wrong pS pL n ci oN oC S L oS oL labs row fresh (x.2.2.1) closed faces comp fof sides side free arnd)) (fun x => x.1 ≤ 4 * n ∧ (x.2.1 = 0 ∨ x.2.1 = 1) ∧ (∀ c, c < n → x.2.2.1 c = nI (x.2.2.2 c)) ∧ Pcg n lab x.2.2.2 ∧ (x.2.1 = 0 → ∀ a b, a < x.1 → b < 4 * n → lab a = lab b → x.2.2.2 (b / 4) ≤ x.2.2.2 (a / 4)) ∧ sm x.2.2.2 n ≤ sm oc n ∧ (x.2.1 = 1 → sm x.2.2.2 n < sm oc n)) (fun x => 4 * n - x.1) (0, 0, P, oc) rfl rfl ⟨Nat.zero_le _, Or.inl rfl, hP, hg, fun _ a b ha => absurd ha (Nat.not_lt_zero a), Nat.le_refl _, fun z => absurd z (by show ¬ (0 : Nat) = 1; decide)⟩ ?_
      rintro ⟨a, w2, P2, o2⟩ ⟨ha, k1, k2, k3, k4, k5, k6⟩ ih3
      dsimp only at ha k1 k2 k3 k4 k5 k6 ih3 ⊢
      refine zi_iload_n O d_Mod_hang_33 rfl ?_
      refine zi_iconstN O 4 d_Mod_hang_34 (by decide) ?_
      refine zi_aload_n O d_Mod_hang_35 rfl ?_
      refine zi_get O f_Mod_59 d_Mod_hang_36 rfl rfl ?_
      first | refine zi_imulN O d_Mod_hang_39 ?_ | refine zi_imul O d_Mod_hang_39 ?_
      refine zi_icmp_geN O 119 d_Mod_hang_40 (by decide) (by omega) (by omega) (fun c40 => ?_) (fun c40 => ?_)
      · refine zi_goto O 25 d_Mod_hang_119 (by decide) ?_
        refine zi_no 2 (ls' := _ :: _ :: none :: _) rfl ?_
        refine zi_no 3 (ls' := _ :: _ :: _ :: none :: _) rfl ?_
        refine ih2 (w2, P2, o2) ⟨k1, k2, k3, fun z a' b' ha' hb' hl => k4 z a' b' (by omega) hb' hl⟩ ?_
        dsimp only
        rcases k1 with z | z
        · rw [if_pos z]; omega
        · rw [if_neg (by omega)]; have := k6 z; omega
      · have la := (hL a (by omega))
        refine zi_iconstN O 0 d_Mod_hang_43 (by decide) ?_
        refine zi_istore_n (ls' := _ :: _ :: _ :: some _ :: _) O d_Mod_hang_44 rfl (by decide) rfl ?_
        refine zi_loop (σ := Nat × Nat × (Nat → Int32) × (Nat → Nat)) (fun x => [some (.ref 0), some (.int (nI x.2.1)), some (.int (nI a)), some (.int (nI x.1))]) (fun x => (mh put wrong pS pL n ci oN oC S L oS oL labs row fresh (x.2.2.1) closed faces comp fof sides side free arnd)) (fun x => x.1 ≤ 4 * n ∧ (x.2.1 = 0 ∨ x.2.1 = 1) ∧ (∀ c, c < n → x.2.2.1 c = nI (x.2.2.2 c)) ∧ Pcg n lab x.2.2.2 ∧ (x.2.1 = 0 → (∀ a' b, a' < a → b < 4 * n → lab a' = lab b → x.2.2.2 (b / 4) ≤ x.2.2.2 (a' / 4)) ∧ ∀ b, b < x.1 → lab a = lab b → x.2.2.2 (b / 4) ≤ x.2.2.2 (a / 4)) ∧ sm x.2.2.2 n ≤ sm oc n ∧ (x.2.1 = 1 → sm x.2.2.2 n < sm oc n)) (fun x => 4 * n - x.1) (0, w2, P2, o2) rfl rfl ⟨Nat.zero_le _, k1, k2, k3, fun z => ⟨fun a' b ha' hb hl => k4 z a' b ha' hb hl, fun b hb => absurd hb (Nat.not_lt_zero b)⟩, k5, k6⟩ ?_
        rintro ⟨b, w3, P3, o3⟩ ⟨hb, j1, j2, j3, j4, j5, j6⟩ ih4
        dsimp only at hb j1 j2 j3 j4 j5 j6 ih4 ⊢
        refine zi_iload_n O d_Mod_hang_45 rfl ?_
        refine zi_iconstN O 4 d_Mod_hang_46 (by decide) ?_
        refine zi_aload_n O d_Mod_hang_47 rfl ?_
        refine zi_get O f_Mod_59 d_Mod_hang_48 rfl rfl ?_
        first | refine zi_imulN O d_Mod_hang_51 ?_ | refine zi_imul O d_Mod_hang_51 ?_
        refine zi_icmp_geN O 113 d_Mod_hang_52 (by decide) (by omega) (by omega) (fun c52 => ?_) (fun c52 => ?_)
        · refine zi_iincN (ls' := _ :: _ :: some _ :: _) O 1 d_Mod_hang_113 rfl (by decide) rfl (by decide) rfl ?_
          refine zi_goto O 33 d_Mod_hang_116 (by decide) ?_
          refine zi_no 3 (ls' := _ :: _ :: _ :: none :: _) rfl ?_
          refine ih3 (a + 1, w3, P3, o3) ⟨by dsimp only; omega, j1, j2, j3, fun z a' b' ha' hb' hl => ?_, j5, j6⟩ (by dsimp only; omega)
          dsimp only at ha' z ⊢
          obtain ⟨q1, q2⟩ := j4 z
          by_cases e : a' = a
          · rw [e] at hl ⊢; exact q2 b' (by omega) hl
          · exact q1 a' b' (by omega) hb' hl
        · have lb := (hL b (by omega))
          have step : (lab a = lab b → o3 (b / 4) ≤ o3 (a / 4)) → zG z1 z2 z3 z4 z5 z6 z7 z8 z9 z10 z11 z12 z13 z14 15 4 (fun r h' => r = none ∧ ∃ (piece' : Nat → Int32) (oc : Nat → Nat), h' = (mh put wrong pS pL n ci oN oC S L oS oL labs row fresh piece' closed faces comp fof sides side free arnd) ∧ (∀ c, c < n → piece' c = nI (oc c)) ∧ Pcl n lab oc) 0 0 0 0 107 [some (.ref 0), some (.int (nI w3)), some (.int (nI a)), some (.int (nI b))] [] (mh put wrong pS pL n ci oN oC S L oS oL labs row fresh P3 closed faces comp fof sides side free arnd) := by
            intro hs
            refine zi_iincN (ls' := _ :: _ :: _ :: some _ :: _) O 1 d_Mod_hang_107 rfl (by decide) rfl (by decide) rfl ?_
            refine zi_goto O 45 d_Mod_hang_110 (by decide) ?_
            refine ih4 (b + 1, w3, P3, o3) ⟨by dsimp only; omega, j1, j2, j3, fun z => ?_, j5, j6⟩ (by dsimp only; omega)
            obtain ⟨q1, q2⟩ := j4 z
            refine ⟨q1, fun b' hb' hl => ?_⟩
            dsimp only at hb'
            by_cases e : b' = b
            · rw [e] at hl ⊢; exact hs hl
            · exact q2 b' (by omega) hl
          have pa := j3.1 (a / 4) (by omega)
          have pb := j3.1 (b / 4) (by omega)
          refine zi_aload_n O d_Mod_hang_55 rfl ?_
          refine zi_get O f_Mod_23 d_Mod_hang_56 rfl rfl ?_
          refine zi_iload_n O d_Mod_hang_59 rfl ?_
          refine zi_iald O d_Mod_hang_60 rfl rfl (by omega) (Nat.le_of_ble_eq_true rfl) ?_
          rw [la.1]
          refine zi_aload_n O d_Mod_hang_61 rfl ?_
          refine zi_get O f_Mod_23 d_Mod_hang_62 rfl rfl ?_
          refine zi_iload_n O d_Mod_hang_65 rfl ?_
          refine zi_iald O d_Mod_hang_66 rfl rfl (by omega) (Nat.le_of_ble_eq_true rfl) ?_
          rw [lb.1]
          refine zi_icmp_neN O 107 d_Mod_hang_67 (by decide) (by omega) (by omega) (fun c67 => ?_) (fun c67 => ?_)
          · exact step (fun z => absurd z c67)
          · refine zi_aload_n O d_Mod_hang_70 rfl ?_
            refine zi_get O f_Mod_38 d_Mod_hang_71 rfl rfl ?_
            refine zi_iload_n O d_Mod_hang_74 rfl ?_
            refine zi_iconstN O 4 d_Mod_hang_75 (by decide) ?_
            refine zi_idivN O d_Mod_hang_76 (by omega) (by omega) (by omega) ?_
            refine zi_iald O d_Mod_hang_77 rfl rfl (by omega) (Nat.le_of_ble_eq_true rfl) ?_
            rw [j2 (a / 4) (by omega)]
            refine zi_aload_n O d_Mod_hang_78 rfl ?_
            refine zi_get O f_Mod_38 d_Mod_hang_79 rfl rfl ?_
            refine zi_iload_n O d_Mod_hang_82 rfl ?_
            refine zi_iconstN O 4 d_Mod_hang_83 (by decide) ?_
            refine zi_idivN O d_Mod_hang_84 (by omega) (by omega) (by omega) ?_
            refine zi_iald O d_Mod_hang_85 rfl rfl (by omega) (Nat.le_of_ble_eq_true rfl) ?_
            rw [j2 (b / 4) (by omega)]
            refine zi_icmp_geN O 107 d_Mod_hang_86 (by decide) (by omega) (by omega) (fun c86 => ?_) (fun c86 => ?_)
            · exact step (fun _ => c86)
            · refine zi_aload_n O d_Mod_hang_89 rfl ?_
              refine zi_get O f_Mod_38 d_Mod_hang_90 rfl rfl ?_
              refine zi_iload_n O d_Mod_hang_93 rfl ?_
              refine zi_iconstN O 4 d_Mod_hang_94 (by decide) ?_
              refine zi_idivN O d_Mod_hang_95 (by omega) (by omega) (by omega) ?_
              refine zi_aload_n O d_Mod_hang_96 rfl ?_
              refine zi_get O f_Mod_38 d_Mod_hang_97 rfl rfl ?_
              refine zi_iload_n O d_Mod_hang_100 rfl ?_
              refine zi_iconstN O 4 d_Mod_hang_101 (by decide) ?_
              refine zi_idivN O d_Mod_hang_102 (by omega) (by omega) (by omega) ?_
              refine zi_iald O d_Mod_hang_103 rfl rfl (by omega) (Nat.le_of_ble_eq_true rfl) ?_
              rw [j2 (a / 4) (by omega)]
              refine zi_iast O d_Mod_hang_104 rfl rfl (by omega) (Nat.le_of_ble_eq_true rfl) (by dsimp only [List.set]) ?_
              refine zi_iconstN O 1 d_Mod_hang_105 (by decide) ?_
              refine zi_istore_n (ls' := _ :: some _ :: _) O d_Mod_hang_106 rfl (by decide) rfl ?_
              refine zi_iincN (ls' := _ :: _ :: _ :: some _ :: _) O 1 d_Mod_hang_107 rfl (by decide) rfl (by decide) rfl ?_
              refine zi_goto O 45 d_Mod_hang_110 (by decide) ?_
              refine ih4 (b + 1, 1, upd P3 (b / 4) (nI (o3 (a / 4))), va_up o3 (b / 4) (o3 (a / 4))) ⟨by dsimp only; omega, Or.inr rfl, fun c hc => ?_, pcg_up j3 (by omega) (by omega) c67 c86, fun z => absurd z (by show ¬ (1 : Nat) = 0; decide), ?_, fun _ => ?_⟩ (by dsimp only; omega)
              · dsimp only
                by_cases e : c = b / 4
                · rw [e, pk_us, up_s]
                · rw [pk_un e, up_n e]; exact j2 c hc
              · have := sm_less (f := o3) c86 (n := n) (by omega)
                dsimp only
                omega
              · have := sm_less (f := o3) c86 (n := n) (by omega)
                dsimp only
                omega
  · refine zi_aload_n O d_Mod_hang_10 rfl ?_
    refine zi_get O f_Mod_38 d_Mod_hang_11 rfl rfl ?_
    refine zi_iload_n O d_Mod_hang_14 rfl ?_
    refine zi_iload_n O d_Mod_hang_15 rfl ?_
    refine zi_iast O d_Mod_hang_16 rfl rfl (by omega) (Nat.le_of_ble_eq_true rfl) (by dsimp only [List.set]) ?_
    refine zi_iincN (ls' := _ :: some _ :: _) O 1 d_Mod_hang_17 rfl (by decide) rfl (by decide) rfl ?_
    refine zi_goto O 2 d_Mod_hang_20 (by decide) ?_
    refine ih (i + 1, upd C i (nI i)) ⟨by dsimp only; omega, fun q hq => ?_⟩ (by dsimp only; omega)
    dsimp only at hq ⊢
    by_cases c : q = i
    · rw [c, pk_us]
    · rw [pk_un c]; exact hC q (by omega)
/-- hang, where the edges are known -/
theorem m_Mod_hangE {lab el fr to_ at_ oc : Nat → Nat} (hR : RowOK n L lab) (h : Ed n lab S el fr to_ at_) (hP : PcE (2 * n) n fr to_ oc) : zMet y_Mod_hang b_Mod_hang 4 none ⟨0, 0, 0, 0⟩ [.ref 0] (mh put wrong pS pL n ci oN oC S L oS oL labs row fresh piece closed faces comp fof sides side free arnd)
    (fun r h' => r = none ∧ ∃ (piece' : Nat → Int32), h' = (mh put wrong pS pL n ci oN oC S L oS oL labs row fresh piece' closed faces comp fof sides side free arnd) ∧ ∀ c, c < n → piece' c = nI (oc c)) := by
  refine (m_Mod_hang hR).mono (fun r h' hq => ?_)
  obtain ⟨rfl, piece', oc', rfl, h1, h2⟩ := hq
  exact ⟨rfl, piece', rfl, fun c hc => by rw [h1 c hc, pcl_uniq h hP h2 c hc]⟩
theorem m_Mod_pieces {lab el fr to_ at_ oc : Nat → Nat} (hR : RowOK n L lab) (h : Ed n lab S el fr to_ at_) (hP : PcE (2 * n) n fr to_ oc) : zMet y_Mod_pieces b_Mod_pieces 3 (some .int) ⟨1, 0, 0, 24⟩ [.ref 0] (mh put wrong pS pL n ci oN oC S L oS oL labs row fresh piece closed faces comp fof sides side free arnd)
    (fun r h' => r = some (.int (nI (rc oc n))) ∧ ∃ (piece' : Nat → Int32), h' = (mh put wrong pS pL n ci oN oC S L oS oL labs row fresh piece' closed faces comp fof sides side free arnd)) := by
  have hn := hR.1
  refine zMet_of (plainFor_of_name (by decide +kernel)) rfl (Nat.le_of_ble_eq_true rfl) (fun z1 z2 z3 z4 z5 z6 z7 z8 z9 z10 z11 z12 z13 z14 O hin => ?_)
  refine zi_ls (ls' := [some (.ref 0), none, none]) rfl ?_
  refine zi_aload_n O d_Mod_pieces_0 rfl ?_
  refine zi_selfV O c_Mod_86 k_Mod_hang (m_Mod_hangE hR h hP) d_Mod_pieces_1 ⟨(Nat.le_of_ble_eq_true rfl), (Nat.le_of_ble_eq_true rfl)⟩ ⟨(Nat.le_of_ble_eq_true rfl), (Nat.le_of_ble_eq_true rfl)⟩ rfl rfl (Nat.le_of_ble_eq_true rfl) rfl rfl rfl (Nat.le_of_ble_eq_true rfl) rfl (fun r h' hq hl => ?_)
  obtain ⟨rfl, piece', rfl, hpc⟩ := hq
  refine zi_st (st' := []) rfl ?_
  refine zi_iconstN O 0 d_Mod_pieces_4 (by decide) ?_
  refine zi_istore_n (ls' := _ :: some _ :: _) O d_Mod_pieces_5 rfl (by decide) rfl ?_
  refine zi_iconstN O 0 d_Mod_pieces_6 (by decide) ?_
  refine zi_istore_n (ls' := _ :: _ :: some _ :: _) O d_Mod_pieces_7 rfl (by decide) rfl ?_
  refine zi_for (fun i => [some (.ref 0), some (.int (nI (rc oc i))), some (.int (nI i))]) (fun _ => (mh put wrong pS pL n ci oN oC S L oS oL labs row fresh piece' closed faces comp fof sides side free arnd)) 0 n (by omega) rfl rfl (fun i _ hi ih => ?_) ?_
  · have := (hP.1 i hi).1
    rw [rc] at ih
    refine zi_iload_n O d_Mod_pieces_8 rfl ?_
    refine zi_aload_n O d_Mod_pieces_9 rfl ?_
    refine zi_get O f_Mod_59 d_Mod_pieces_10 rfl rfl ?_
    refine zi_icmp_geN O 40 d_Mod_pieces_13 (by decide) (by omega) (by omega) (fun c13 => ?_) (fun c13 => ?_)
    · omega
    · refine zi_iload_n O d_Mod_pieces_16 rfl ?_
      refine zi_aload_n O d_Mod_pieces_17 rfl ?_
      refine zi_get O f_Mod_38 d_Mod_pieces_18 rfl rfl ?_
      refine zi_iload_n O d_Mod_pieces_21 rfl ?_
      refine zi_iald O d_Mod_pieces_22 rfl rfl (by omega) (Nat.le_of_ble_eq_true rfl) ?_
      rw [hpc i hi]
      refine zi_iload_n O d_Mod_pieces_23 rfl ?_
      refine zi_icmp_neN O 31 d_Mod_pieces_24 (by decide) (by omega) (by omega) (fun c24 => ?_) (fun c24 => ?_)
      · rw [if_neg c24] at ih
        refine zi_iconstN O 0 d_Mod_pieces_31 (by decide) ?_
        first | refine zi_iaddN O d_Mod_pieces_32 ?_ | refine zi_iadd O d_Mod_pieces_32 ?_
        refine zi_istore_n (ls' := _ :: some _ :: _) O d_Mod_pieces_33 rfl (by decide) rfl ?_
        refine zi_iincN (ls' := _ :: _ :: some _ :: _) O 1 d_Mod_pieces_34 rfl (by decide) rfl (by decide) rfl ?_
        refine zi_goto O 8 d_Mod_pieces_37 (by decide) ?_
        exact ih
      · rw [if_pos c24] at ih
        refine zi_iconstN O 1 d_Mod_pieces_27 (by decide) ?_
        refine zi_goto O 32 d_Mod_pieces_28 (by decide) ?_
        first | refine zi_iaddN O d_Mod_pieces_32 ?_ | refine zi_iadd O d_Mod_pieces_32 ?_
        refine zi_istore_n (ls' := _ :: some _ :: _) O d_Mod_pieces_33 rfl (by decide) rfl ?_
        refine zi_iincN (ls' := _ :: _ :: some _ :: _) O 1 d_Mod_pieces_34 rfl (by decide) rfl (by decide) rfl ?_
        refine zi_goto O 8 d_Mod_pieces_37 (by decide) ?_
        exact ih
  · refine zi_iload_n O d_Mod_pieces_8 rfl ?_
    refine zi_aload_n O d_Mod_pieces_9 rfl ?_
    refine zi_get O f_Mod_59 d_Mod_pieces_10 rfl rfl ?_
    refine zi_icmp_geN O 40 d_Mod_pieces_13 (by decide) (by omega) (by omega) (fun c13 => ?_) (fun c13 => ?_)
    · refine zi_iload_n O d_Mod_pieces_40 rfl ?_
      refine zi_iret O d_Mod_pieces_41 (Nat.le_of_ble_eq_true rfl) (Nat.le_of_ble_eq_true rfl) (Nat.le_of_ble_eq_true rfl) ?_
      exact ⟨rfl, piece', rfl⟩
    · omega
end
