/-! Math, Arrays, Row -/
def zb (b : Prop) [Decidable b] : Int32 := if b then 1 else 0
abbrev rowH (n : Nat) (L S : Nat → Int32) : List zE := [zo 2 [.ref 1, .ref 2, .int (nI n)], za 80 L, za 20 S]
theorem m_Math_min (x y : Int32) : zPu y_Math_min b_Math_min 2 (some .int) ⟨0, 0, 0, 0⟩ [.int x, .int y] [] (.int (if y < x then y else x)) := by
  refine zMet_of (by decide +kernel) rfl (Nat.le_of_ble_eq_true rfl) (fun p l e R s m args below meth c D dA A ad0 O hin => ?_)
  refine zi_ls (ls' := [some (.int x), some (.int y)]) rfl ?_
  refine zi_iload_n O d_Math_min_0 rfl ?_
  refine zi_iload_n O d_Math_min_1 rfl ?_
  refine zi_icmp_gt O 9 d_Math_min_2 (by decide) (fun c2 => ?_) (fun c2 => ?_)
  · refine zi_iload_n O d_Math_min_9 rfl ?_
    refine zi_iret O d_Math_min_10 (Nat.le_of_ble_eq_true rfl) (Nat.le_of_ble_eq_true rfl) (Nat.le_of_ble_eq_true rfl) ?_
    exact ⟨by rw [if_pos c2], rfl⟩
  · refine zi_iload_n O d_Math_min_5 rfl ?_
    refine zi_goto O 10 d_Math_min_6 (by decide) ?_
    refine zi_iret O d_Math_min_10 (Nat.le_of_ble_eq_true rfl) (Nat.le_of_ble_eq_true rfl) (Nat.le_of_ble_eq_true rfl) ?_
    exact ⟨by rw [if_neg c2], rfl⟩
theorem m_Math_max (x y : Int32) : zPu y_Math_max b_Math_max 2 (some .int) ⟨0, 0, 0, 0⟩ [.int x, .int y] [] (.int (if x < y then y else x)) := by
  refine zMet_of (by decide +kernel) rfl (Nat.le_of_ble_eq_true rfl) (fun p l e R s m args below meth c D dA A ad0 O hin => ?_)
  refine zi_ls (ls' := [some (.int x), some (.int y)]) rfl ?_
  refine zi_iload_n O d_Math_max_0 rfl ?_
  refine zi_iload_n O d_Math_max_1 rfl ?_
  refine zi_icmp_lt O 9 d_Math_max_2 (by decide) (fun c2 => ?_) (fun c2 => ?_)
  · refine zi_iload_n O d_Math_max_9 rfl ?_
    refine zi_iret O d_Math_max_10 (Nat.le_of_ble_eq_true rfl) (Nat.le_of_ble_eq_true rfl) (Nat.le_of_ble_eq_true rfl) ?_
    exact ⟨by rw [if_pos c2], rfl⟩
  · refine zi_iload_n O d_Math_max_5 rfl ?_
    refine zi_goto O 10 d_Math_max_6 (by decide) ?_
    refine zi_iret O d_Math_max_10 (Nat.le_of_ble_eq_true rfl) (Nat.le_of_ble_eq_true rfl) (Nat.le_of_ble_eq_true rfl) ?_
    exact ⟨by rw [if_neg c2], rfl⟩
theorem m_Row_isFull (n : Nat) (L S : Nat → Int32) (hn : n ≤ 20) : zPu y_Row_isFull b_Row_isFull 1 (some .boolean) ⟨0, 0, 0, 0⟩ [.ref 0] (rowH n L S) (.int (zb (20 ≤ n))) := by
  refine zMet_of (by decide +kernel) rfl (Nat.le_of_ble_eq_true rfl) (fun p l e R s m args below meth c D dA A ad0 O hin => ?_)
  refine zi_ls (ls' := [some (.ref 0)]) rfl ?_
  refine zi_aload_n O d_Row_isFull_0 rfl ?_
  refine zi_get O f_Row_18 d_Row_isFull_1 rfl rfl ?_
  refine zi_bipushN O 20 d_Row_isFull_4 (by decide) ?_
  refine zi_icmp_ltN O 13 d_Row_isFull_6 (by decide) (by omega) (by omega) (fun c6 => ?_) (fun c6 => ?_)
  · refine zi_iconstN O 0 d_Row_isFull_13 (by decide) ?_
    refine zi_zret O d_Row_isFull_14 rfl (Nat.le_of_ble_eq_true rfl) (Nat.le_of_ble_eq_true rfl) (Nat.le_of_ble_eq_true rfl) ?_
    exact ⟨by rw [zb, if_neg (by omega)]; rfl, rfl⟩
  · refine zi_iconstN O 1 d_Row_isFull_9 (by decide) ?_
    refine zi_goto O 14 d_Row_isFull_10 (by decide) ?_
    refine zi_zret O d_Row_isFull_14 rfl (Nat.le_of_ble_eq_true rfl) (Nat.le_of_ble_eq_true rfl) (Nat.le_of_ble_eq_true rfl) ?_
    exact ⟨by rw [zb, if_pos (by omega)]; rfl, rfl⟩
