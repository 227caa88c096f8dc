/-! patterns of faces -/
def us (x y : Int32) : Int32 := (x.toUInt32 >>> (y.toUInt32 &&& Int32.toUInt32 31)).toInt32
def bc1 (x : Int32) : Int32 := x - (us x (nI 1) &&& 1431655765)
def bc2 (x : Int32) : Int32 := (x &&& 858993459) + (us x (nI 2) &&& 858993459)
def bc3 (x : Int32) : Int32 := (x + us x (nI 4)) &&& 252645135
def bc4 (x : Int32) : Int32 := x + us x (nI 8)
def bc5 (x : Int32) : Int32 := x + us x (nI 16)
def bcF (x : Int32) : Int32 := bc5 (bc4 (bc3 (bc2 (bc1 x)))) &&& nI 63
theorem m_Int_bitCount (x : Int32) : zPu y_Int_bitCount b_Int_bitCount 1 (some .int) ⟨0, 0, 0, 0⟩ [.int x] [] (.int (bcF x)) := by
  refine zMet_of (by decide +kernel) rfl (Nat.le_of_ble_eq_true rfl) (fun z1 z2 z3 z4 z5 z6 z7 z8 z9 z10 z11 z12 z13 z14 O hin => ?_)
  refine zi_ls (ls' := [some (.int x)]) rfl ?_
  refine zi_iload_n O d_Int_bitCount_0 rfl ?_
  refine zi_iload_n O d_Int_bitCount_1 rfl ?_
  refine zi_iconstN O 1 d_Int_bitCount_2 (by decide) ?_
  refine zi_iushr O d_Int_bitCount_3 ?_
  refine zi_ldcw O z_k_265 d_Int_bitCount_4 ?_
  first | refine zi_iandN O 1 1 d_Int_bitCount_7 (by decide) (by omega) ?_ | refine zi_iandN O 3 2 d_Int_bitCount_7 (by decide) (by omega) ?_ | refine zi_iand O d_Int_bitCount_7 ?_
  first | refine zi_isubN O d_Int_bitCount_8 (by omega) ?_ | refine zi_isub O d_Int_bitCount_8 ?_
  refine zi_st (st' := [.int (bc1 x)]) rfl ?_
  generalize hx1 : bc1 x = x1
  refine zi_istore_n (ls' := some _ :: _) O d_Int_bitCount_9 rfl (by decide) rfl ?_
  refine zi_iload_n O d_Int_bitCount_10 rfl ?_
  refine zi_ldcw O z_k_266 d_Int_bitCount_11 ?_
  first | refine zi_iandN O 1 1 d_Int_bitCount_14 (by decide) (by omega) ?_ | refine zi_iandN O 3 2 d_Int_bitCount_14 (by decide) (by omega) ?_ | refine zi_iand O d_Int_bitCount_14 ?_
  refine zi_iload_n O d_Int_bitCount_15 rfl ?_
  refine zi_iconstN O 2 d_Int_bitCount_16 (by decide) ?_
  refine zi_iushr O d_Int_bitCount_17 ?_
  refine zi_ldcw O z_k_266 d_Int_bitCount_18 ?_
  first | refine zi_iandN O 1 1 d_Int_bitCount_21 (by decide) (by omega) ?_ | refine zi_iandN O 3 2 d_Int_bitCount_21 (by decide) (by omega) ?_ | refine zi_iand O d_Int_bitCount_21 ?_
  first | refine zi_iaddN O d_Int_bitCount_22 ?_ | refine zi_iadd O d_Int_bitCount_22 ?_
  refine zi_st (st' := [.int (bc2 x1)]) rfl ?_
  generalize hx2 : bc2 x1 = x2
  refine zi_istore_n (ls' := some _ :: _) O d_Int_bitCount_23 rfl (by decide) rfl ?_
  refine zi_iload_n O d_Int_bitCount_24 rfl ?_
  refine zi_iload_n O d_Int_bitCount_25 rfl ?_
  refine zi_iconstN O 4 d_Int_bitCount_26 (by decide) ?_
  refine zi_iushr O d_Int_bitCount_27 ?_
  first | refine zi_iaddN O d_Int_bitCount_28 ?_ | refine zi_iadd O d_Int_bitCount_28 ?_
  refine zi_ldcw O z_k_267 d_Int_bitCount_29 ?_
  first | refine zi_iandN O 1 1 d_Int_bitCount_32 (by decide) (by omega) ?_ | refine zi_iandN O 3 2 d_Int_bitCount_32 (by decide) (by omega) ?_ | refine zi_iand O d_Int_bitCount_32 ?_
  refine zi_st (st' := [.int (bc3 x2)]) rfl ?_
  generalize hx3 : bc3 x2 = x3
  refine zi_istore_n (ls' := some _ :: _) O d_Int_bitCount_33 rfl (by decide) rfl ?_
  refine zi_iload_n O d_Int_bitCount_34 rfl ?_
  refine zi_iload_n O d_Int_bitCount_35 rfl ?_
  refine zi_bipushN O 8 d_Int_bitCount_36 (by decide) ?_
  refine zi_iushr O d_Int_bitCount_38 ?_
  first | refine zi_iaddN O d_Int_bitCount_39 ?_ | refine zi_iadd O d_Int_bitCount_39 ?_
  refine zi_st (st' := [.int (bc4 x3)]) rfl ?_
  generalize hx4 : bc4 x3 = x4
  refine zi_istore_n (ls' := some _ :: _) O d_Int_bitCount_40 rfl (by decide) rfl ?_
  refine zi_iload_n O d_Int_bitCount_41 rfl ?_
  refine zi_iload_n O d_Int_bitCount_42 rfl ?_
  refine zi_bipushN O 16 d_Int_bitCount_43 (by decide) ?_
  refine zi_iushr O d_Int_bitCount_45 ?_
  first | refine zi_iaddN O d_Int_bitCount_46 ?_ | refine zi_iadd O d_Int_bitCount_46 ?_
  refine zi_st (st' := [.int (bc5 x4)]) rfl ?_
  generalize hx5 : bc5 x4 = x5
  refine zi_istore_n (ls' := some _ :: _) O d_Int_bitCount_47 rfl (by decide) rfl ?_
  refine zi_iload_n O d_Int_bitCount_48 rfl ?_
  refine zi_bipushN O 63 d_Int_bitCount_49 (by decide) ?_
  first | refine zi_iandN O 1 1 d_Int_bitCount_51 (by decide) (by omega) ?_ | refine zi_iandN O 3 2 d_Int_bitCount_51 (by decide) (by omega) ?_ | refine zi_iand O d_Int_bitCount_51 ?_
  refine zi_iret O d_Int_bitCount_52 (Nat.le_of_ble_eq_true rfl) (Nat.le_of_ble_eq_true rfl) (Nat.le_of_ble_eq_true rfl) ?_
  exact ⟨by rw [bcF, hx1, hx2, hx3, hx4, hx5], rfl⟩
def bit (c : Nat) : Int32 := nI 1 <<< (nI c &&& 31)
set_option maxRecDepth 100000 in
theorem bc_three : ∀ a, a < 20 → ∀ b, b < 20 → ∀ c, c < 20 → (bcF (((nI 0 ||| bit a) ||| bit b) ||| bit c) = nI 3 ↔ (a ≠ b ∧ b ≠ c ∧ a ≠ c)) := by decide +kernel
theorem ht_three : ∀ a, a < 3 → ∀ b, b < 3 → ∀ c, c < 3 → ((((nI 0 ||| bit a) ||| bit b) ||| bit c) = nI 7 ↔ (a ≠ b ∧ b ≠ c ∧ a ≠ c)) := by decide +kernel
