/-! The model: facesAt, badLabel, badPiece, fault -/
theorem ff_keep {N : Nat} {nx : Nat → Nat} (hN : N < 2 ^ 31) (hp : Perm N nx) {d x : Nat} (hx : ¬ (FF nx N d).1 x < 0) : ∀ k, d + k ≤ N → (FF nx N (d + k)).1 x = (FF nx N d).1 x
  | 0, _ => rfl
  | k + 1, h => by
    have ih := ff_keep hN hp hx k (by omega)
    obtain ⟨g1, g2, g3, g4⟩ := ff_cl hN hp (d + k) (by omega)
    have hF := ff_le hN hp (d := d + k) (by omega)
    rw [show d + (k + 1) = (d + k) + 1 by omega, FF]
    by_cases hf : (FF nx N (d + k)).1 (d + k) < 0
    · obtain ⟨t, t0, tb, td, t1, t2, tc, tw, tcl⟩ := walk_round (v := nI (FF nx N (d + k)).2) hp g1 (by omega : d + k < N) hf (nI_pos (by omega))
      rw [if_pos hf, tw]
      dsimp only
      rw [gs_out, ih]
      intro a _ z
      have := cl_it hp g1 (by omega : d + k < N) a
      rw [z, ih] at this
      rw [this] at hx
      exact hx hf
    · rw [if_neg hf]; exact ih
theorem ff_new {N : Nat} {nx : Nat → Nat} (hN : N < 2 ^ 31) (hp : Perm N nx) {d : Nat} (hd : d < N) (hf : (FF nx N d).1 d < 0) : (FF nx N N).1 d = nI (FF nx N d).2 := by
  obtain ⟨g1, g2, g3, g4⟩ := ff_cl hN hp d (by omega)
  have hF := ff_le hN hp (d := d) (by omega)
  obtain ⟨t, t0, tb, td, t1, t2, tc, tw, tcl⟩ := walk_round (v := nI (FF nx N d).2) hp g1 hd hf (nI_pos (by omega))
  have e : (FF nx N (d + 1)).1 d = nI (FF nx N d).2 := by
    rw [FF, if_pos hf, tw]
    exact gs_in (a := 0) t0
  have := ff_keep hN hp (d := d + 1) (x := d) (by rw [e]; exact nI_pos (by omega)) (N - (d + 1)) (by omega)
  rw [show d + 1 + (N - (d + 1)) = N by omega, e] at this
  exact this
theorem ff_old {N : Nat} {nx : Nat → Nat} (hN : N < 2 ^ 31) (hp : Perm N nx) {d x : Nat} (hd : d ≤ N) (hf : ¬ (FF nx N d).1 x < 0) : ∃ k, k < (FF nx N d).2 ∧ (FF nx N N).1 x = nI k := by
  obtain ⟨g1, g2, g3, g4⟩ := ff_cl hN hp d hd
  rcases g4 x with q | ⟨k, q1, q2⟩
  · rw [q] at hf; exact absurd (by decide) hf
  · have := ff_keep hN hp hf (N - d) (by omega)
    rw [show d + (N - d) = N by omega, q2] at this
    exact ⟨k, q1, this⟩
/-- how many of the first N have it -/
def cnt (P : Nat → Prop) [DecidablePred P] : Nat → Nat
  | 0 => 0
  | N + 1 => cnt P N + (if P N then 1 else 0)
theorem cnt_le (P : Nat → Prop) [DecidablePred P] : ∀ N, cnt P N ≤ N
  | 0 => Nat.le_refl _
  | N + 1 => by rw [cnt]; have := cnt_le P N; split <;> omega
/-- a dart is its face's first, and lies at piece k -/
abbrev fbg (n : Nat) (fr to_ at_ oc : Nat → Nat) (k j : Nat) : Prop := (FF (nxD fr to_ at_) (4 * n) j).1 j < 0 ∧ oc (fr (j / 2) / 4) = k
def lst (F : Nat) : Int32 := if F = 0 then -1 else nI (F - 1)
theorem lst_lt {F : Nat} (hF : F < 2 ^ 31) : lst F < nI F := by
  unfold lst
  split
  · rename_i h; rw [h]; decide
  · exact nI_lt (by omega) (by omega)
theorem lst_ge {F k : Nat} (hk : k < F) (hF : F < 2 ^ 31) : nI k ≤ lst F := by
  unfold lst
  rw [if_neg (by omega)]
  exact nI_le (by omega) (by omega)
section
variable {put n oN labs closed faces sides : Nat} {wrong ci oC : Int32} {pS pL S L oS oL row fresh piece comp fof side free arnd : Nat → Int32}
set_option maxHeartbeats 1000000 in
theorem m_Mod_facesAt {lab el fr to_ at_ oc : Nat → Nat} (hR : RowOK n L lab) (hG : Sg n S) (h : Ed n lab S el fr to_ at_) (hlabs : labs = 2 * n) (hrow : ∀ i, i < 2 * n → row i = nI (el i)) (hfof : ∀ d, d < 4 * n → fof d = (FF (nxD fr to_ at_) (4 * n) (4 * n)).1 d) (hpc : ∀ c, c < n → piece c = nI (oc c)) (hoc : ∀ c, c < n → oc c ≤ c) (k : Nat) (hk : k < n) : zPu y_Mod_facesAt b_Mod_facesAt 6 (some .int) ⟨2, 0, 0, 60⟩ [.ref 0, .int (nI k)] (mh put wrong pS pL n ci oN oC S L oS oL labs row fresh piece closed faces comp fof sides side free arnd) (.int (nI (cnt (fbg n fr to_ at_ oc k) (4 * n)))) := by
  subst hlabs
  have hn := hR.1
  have hp := perm_D h
  have hN : 4 * n < 2 ^ 31 := by omega
  refine zMet_of (plainFor_of_name (by decide +kernel)) rfl (Nat.le_of_ble_eq_true rfl) (fun z1 z2 z3 z4 z5 z6 z7 z8 z9 z10 z11 z12 z13 z14 O hin => ?_)
  refine zi_ls (ls' := [some (.ref 0), some (.int (nI k)), none, none, none, none]) rfl ?_
  refine zi_iconstN O 0 d_Mod_facesAt_0 (by decide) ?_
  refine zi_istore_n (ls' := _ :: _ :: some _ :: _) O d_Mod_facesAt_1 rfl (by decide) rfl ?_
  refine zi_iconst (v := -1) O d_Mod_facesAt_2 (by decide) ?_
  refine zi_istore_n (ls' := _ :: _ :: _ :: some _ :: _) O d_Mod_facesAt_3 rfl (by decide) rfl ?_
  refine zi_iconstN O 0 d_Mod_facesAt_4 (by decide) ?_
  refine zi_istore (ls' := _ :: _ :: _ :: _ :: some _ :: _) O d_Mod_facesAt_5 rfl (by decide) rfl ?_
  refine zi_for (fun j => [some (.ref 0), some (.int (nI k)), some (.int (nI (cnt (fbg n fr to_ at_ oc k) j))), some (.int (lst (FF (nxD fr to_ at_) (4 * n) j).2)), some (.int (nI j)), none]) (fun _ => (mh put wrong pS pL n ci oN oC S L oS oL (2 * n) row fresh piece closed faces comp fof sides side free arnd)) 0 (4 * n) (by omega) rfl rfl (fun j _ hj ih => ?_) ?_
  · have hF := ff_le hN hp (d := j) (by omega)
    obtain ⟨f1, -⟩ := h.1 (j / 2) (by omega)
    have ho := hoc (fr (j / 2) / 4) (by omega)
    rw [cnt, FF] at ih
    refine zi_iload O d_Mod_facesAt_7 rfl ?_
    refine zi_iconstN O 2 d_Mod_facesAt_9 (by decide) ?_
    refine zi_aload_n O d_Mod_facesAt_10 rfl ?_
    refine zi_get O f_Mod_74 d_Mod_facesAt_11 rfl rfl ?_
    first | refine zi_imulN O d_Mod_facesAt_14 ?_ | refine zi_imul O d_Mod_facesAt_14 ?_
    refine zi_icmp_geN O 97 d_Mod_facesAt_15 (by decide) (by omega) (by omega) (fun c15 => ?_) (fun c15 => ?_)
    · omega
    · refine zi_aload_n O d_Mod_facesAt_18 rfl ?_
      refine zi_get O f_Mod_44 d_Mod_facesAt_19 rfl rfl ?_
      refine zi_iload O d_Mod_facesAt_22 rfl ?_
      refine zi_iald O d_Mod_facesAt_24 rfl rfl (by omega) (Nat.le_of_ble_eq_true rfl) ?_
      rw [hfof j hj]
      by_cases hf : (FF (nxD fr to_ at_) (4 * n) j).1 j < 0
      · rw [ff_new hN hp hj hf]
        rw [if_pos hf] at ih
        have hl := lst_lt (F := (FF (nxD fr to_ at_) (4 * n) j).2) (by omega)
        have hl2 : lst ((FF (nxD fr to_ at_) (4 * n) j).2 + 1) = nI (FF (nxD fr to_ at_) (4 * n) j).2 := by
          unfold lst
          rw [if_neg (by omega), Nat.add_sub_cancel]
        dsimp only at ih
        rw [hl2] at ih
        refine zi_iload_n O d_Mod_facesAt_25 rfl ?_
        refine zi_icmp_le O 33 d_Mod_facesAt_26 (by decide) (fun c26 => ?_) (fun c26 => ?_)
        · exact absurd c26 (Int32.not_le.mpr hl)
        · refine zi_iconstN O 1 d_Mod_facesAt_29 (by decide) ?_
          refine zi_goto O 34 d_Mod_facesAt_30 (by decide) ?_
          refine zi_istore (ls' := _ :: _ :: _ :: _ :: _ :: some _ :: _) O d_Mod_facesAt_34 rfl (by decide) rfl ?_
          refine zi_iload_n O d_Mod_facesAt_36 rfl ?_
          refine zi_iload O d_Mod_facesAt_37 rfl ?_
          refine zi_if_eq O 71 d_Mod_facesAt_39 (by decide) (fun c39 => ?_) (fun c39 => ?_)
          · exact absurd c39 (by decide)
          · refine zi_aload_n O d_Mod_facesAt_42 rfl ?_
            refine zi_get O f_Mod_38 d_Mod_facesAt_43 rfl rfl ?_
            refine zi_aload_n O d_Mod_facesAt_46 rfl ?_
            refine zi_aload_n O d_Mod_facesAt_47 rfl ?_
            refine zi_get O f_Mod_32 d_Mod_facesAt_48 rfl rfl ?_
            refine zi_iload O d_Mod_facesAt_51 rfl ?_
            refine zi_iconstN O 2 d_Mod_facesAt_53 (by decide) ?_
            refine zi_idivN O d_Mod_facesAt_54 (by omega) (by omega) (by omega) ?_
            refine zi_iald O d_Mod_facesAt_55 rfl rfl (by omega) (Nat.le_of_ble_eq_true rfl) ?_
            rw [hrow (j / 2) (by omega)]
            refine zi_iconstN O 1 d_Mod_facesAt_56 (by decide) ?_
            refine zi_selfP O c_Mod_66 k_Mod_placeOf (m_Mod_fr hR hG h (by omega)) d_Mod_facesAt_57 ⟨(Nat.le_of_ble_eq_true rfl), (Nat.le_of_ble_eq_true rfl)⟩ ⟨(Nat.le_of_ble_eq_true rfl), (Nat.le_of_ble_eq_true rfl)⟩ rfl rfl (Nat.le_of_ble_eq_true rfl) rfl rfl rfl (Nat.le_of_ble_eq_true rfl) rfl ?_
            refine zi_iconstN O 4 d_Mod_facesAt_60 (by decide) ?_
            refine zi_idivN O d_Mod_facesAt_61 (by omega) (by omega) (by omega) ?_
            refine zi_iald O d_Mod_facesAt_62 rfl rfl (by omega) (Nat.le_of_ble_eq_true rfl) ?_
            rw [hpc _ (by omega)]
            refine zi_iload_n O d_Mod_facesAt_63 rfl ?_
            refine zi_icmp_neN O 71 d_Mod_facesAt_64 (by decide) (by omega) (by omega) (fun c64 => ?_) (fun c64 => ?_)
            · rw [if_neg (fun z => c64 z.2)] at ih
              refine zi_iconstN O 0 d_Mod_facesAt_71 (by decide) ?_
              first | refine zi_iaddN O d_Mod_facesAt_72 ?_ | refine zi_iadd O d_Mod_facesAt_72 ?_
              refine zi_istore_n (ls' := _ :: _ :: some _ :: _) O d_Mod_facesAt_73 rfl (by decide) rfl ?_
              refine zi_iload O d_Mod_facesAt_74 rfl ?_
              refine zi_if_eq O 89 d_Mod_facesAt_76 (by decide) (fun c76 => ?_) (fun c76 => ?_)
              · exact absurd c76 (by decide)
              · refine zi_aload_n O d_Mod_facesAt_79 rfl ?_
                refine zi_get O f_Mod_44 d_Mod_facesAt_80 rfl rfl ?_
                refine zi_iload O d_Mod_facesAt_83 rfl ?_
                refine zi_iald O d_Mod_facesAt_85 rfl rfl (by omega) (Nat.le_of_ble_eq_true rfl) ?_
                rw [hfof j hj, ff_new hN hp hj hf]
                refine zi_goto O 90 d_Mod_facesAt_86 (by decide) ?_
                refine zi_istore_n (ls' := _ :: _ :: _ :: some _ :: _) O d_Mod_facesAt_90 rfl (by decide) rfl ?_
                refine zi_iincN (ls' := _ :: _ :: _ :: _ :: some _ :: _) O 1 d_Mod_facesAt_91 rfl (by decide) rfl (by decide) rfl ?_
                refine zi_goto O 7 d_Mod_facesAt_94 (by decide) ?_
                refine zi_no 5 (ls' := _ :: _ :: _ :: _ :: _ :: none :: _) rfl ?_
                exact ih
            · rw [if_pos ⟨hf, c64⟩] at ih
              refine zi_iconstN O 1 d_Mod_facesAt_67 (by decide) ?_
              refine zi_goto O 72 d_Mod_facesAt_68 (by decide) ?_
              first | refine zi_iaddN O d_Mod_facesAt_72 ?_ | refine zi_iadd O d_Mod_facesAt_72 ?_
              refine zi_istore_n (ls' := _ :: _ :: some _ :: _) O d_Mod_facesAt_73 rfl (by decide) rfl ?_
              refine zi_iload O d_Mod_facesAt_74 rfl ?_
              refine zi_if_eq O 89 d_Mod_facesAt_76 (by decide) (fun c76 => ?_) (fun c76 => ?_)
              · exact absurd c76 (by decide)
              · refine zi_aload_n O d_Mod_facesAt_79 rfl ?_
                refine zi_get O f_Mod_44 d_Mod_facesAt_80 rfl rfl ?_
                refine zi_iload O d_Mod_facesAt_83 rfl ?_
                refine zi_iald O d_Mod_facesAt_85 rfl rfl (by omega) (Nat.le_of_ble_eq_true rfl) ?_
                rw [hfof j hj, ff_new hN hp hj hf]
                refine zi_goto O 90 d_Mod_facesAt_86 (by decide) ?_
                refine zi_istore_n (ls' := _ :: _ :: _ :: some _ :: _) O d_Mod_facesAt_90 rfl (by decide) rfl ?_
                refine zi_iincN (ls' := _ :: _ :: _ :: _ :: some _ :: _) O 1 d_Mod_facesAt_91 rfl (by decide) rfl (by decide) rfl ?_
                refine zi_goto O 7 d_Mod_facesAt_94 (by decide) ?_
                refine zi_no 5 (ls' := _ :: _ :: _ :: _ :: _ :: none :: _) rfl ?_
                exact ih
      · obtain ⟨q, q1, q2⟩ := ff_old hN hp (d := j) (by omega) hf
        rw [q2]
        rw [if_neg hf, if_neg (fun z => hf z.1)] at ih
        have hl := lst_ge q1 (by omega)
        refine zi_iload_n O d_Mod_facesAt_25 rfl ?_
        refine zi_icmp_le O 33 d_Mod_facesAt_26 (by decide) (fun c26 => ?_) (fun c26 => ?_)
        · refine zi_iconstN O 0 d_Mod_facesAt_33 (by decide) ?_
          refine zi_istore (ls' := _ :: _ :: _ :: _ :: _ :: some _ :: _) O d_Mod_facesAt_34 rfl (by decide) rfl ?_
          refine zi_iload_n O d_Mod_facesAt_36 rfl ?_
          refine zi_iload O d_Mod_facesAt_37 rfl ?_
          refine zi_if_eq O 71 d_Mod_facesAt_39 (by decide) (fun c39 => ?_) (fun c39 => ?_)
          · refine zi_iconstN O 0 d_Mod_facesAt_71 (by decide) ?_
            first | refine zi_iaddN O d_Mod_facesAt_72 ?_ | refine zi_iadd O d_Mod_facesAt_72 ?_
            refine zi_istore_n (ls' := _ :: _ :: some _ :: _) O d_Mod_facesAt_73 rfl (by decide) rfl ?_
            refine zi_iload O d_Mod_facesAt_74 rfl ?_
            refine zi_if_eq O 89 d_Mod_facesAt_76 (by decide) (fun c76 => ?_) (fun c76 => ?_)
            · refine zi_iload_n O d_Mod_facesAt_89 rfl ?_
              refine zi_istore_n (ls' := _ :: _ :: _ :: some _ :: _) O d_Mod_facesAt_90 rfl (by decide) rfl ?_
              refine zi_iincN (ls' := _ :: _ :: _ :: _ :: some _ :: _) O 1 d_Mod_facesAt_91 rfl (by decide) rfl (by decide) rfl ?_
              refine zi_goto O 7 d_Mod_facesAt_94 (by decide) ?_
              refine zi_no 5 (ls' := _ :: _ :: _ :: _ :: _ :: none :: _) rfl ?_
              exact ih
            · exact absurd rfl c76
          · exact absurd rfl c39
        · exact absurd hl c26
  · refine zi_iload O d_Mod_facesAt_7 rfl ?_
    refine zi_iconstN O 2 d_Mod_facesAt_9 (by decide) ?_
    refine zi_aload_n O d_Mod_facesAt_10 rfl ?_
    refine zi_get O f_Mod_74 d_Mod_facesAt_11 rfl rfl ?_
    first | refine zi_imulN O d_Mod_facesAt_14 ?_ | refine zi_imul O d_Mod_facesAt_14 ?_
    refine zi_icmp_geN O 97 d_Mod_facesAt_15 (by decide) (by omega) (by omega) (fun c15 => ?_) (fun c15 => ?_)
    · refine zi_iload_n O d_Mod_facesAt_97 rfl ?_
      refine zi_iret O d_Mod_facesAt_98 (Nat.le_of_ble_eq_true rfl) (Nat.le_of_ble_eq_true rfl) (Nat.le_of_ble_eq_true rfl) ?_
      exact ⟨rfl, rfl⟩
    · omega
end
