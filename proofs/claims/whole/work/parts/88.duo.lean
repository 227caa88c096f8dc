/-! class and model side by side -/
/-- the same diagram, the same put row -/
def Rl (hC hM : List zE) : Prop := ∃ (n : Nat) (lab : Nat → Nat) (S : Nat → Int32) (ci : Int32) (el fr to_ at_ oc : Nat → Nat) (k : Nat) (plab : Nat → Nat) (T : Nat → Int32) (cj : Int32), Mv (Dia n lab S ci el fr to_ at_ oc) (Dr k plab T cj) hC ∧ Mdl k plab T n lab S ci hM
/-- the class's cells, whatever they hold -/
def Cls (h : List zE) : Prop := ∃ (n : Nat) (lab : Nat → Nat) (S : Nat → Int32) (ci : Int32) (k : Nat) (plab : Nat → Nat) (T : Nat → Int32) (cj : Int32), Mv (Dr n lab S ci) (Dr k plab T cj) h
def Duo (yC : MethodName) (bC : ByteArray) (nC : Nat) (tC : FieldType) (yM : MethodName) (bM : ByteArray) (nM : Nat) (tM : FieldType) (av : List Value) (hC hM : List zE) : Prop :=
  ∃ (rC : Room) (Qc : Option Value → List zE → Prop), rC.frames ≤ 8 ∧ rC.locals ≤ 220 ∧ rC.cells ≤ 2 ∧ rC.slots ≤ 6 ∧ zMet yC bC nC (some tC) rC (.ref 0 :: av) hC Qc ∧ ∀ r h', Qc r h' → ∃ v : Int32, r = some (.int v) ∧ Cls h' ∧
    ∃ (rM : Room) (Qm : Option Value → List zE → Prop), rM.frames ≤ 8 ∧ rM.locals ≤ 220 ∧ rM.cells ≤ 0 ∧ rM.slots ≤ 0 ∧ zMet yM bM nM (some tM) rM (.ref 0 :: av) hM Qm ∧ ∀ r' h'', Qm r' h'' → r' = some (.int v) ∧ Rl h' h''
theorem mv_mono {P P' R R' : List zE → Prop} {h : List zE} (hM : Mv P R h) (h1 : ∀ x, P x → P' x) (h2 : ∀ x, R x → R' x) : Mv P' R' h := by
  rcases hM with ⟨hA, hB, hP, hR, e⟩ | ⟨hB, hA, hR, hP, e⟩
  · exact Or.inl ⟨hA, hB, h1 _ hP, h2 _ hR, e⟩
  · exact Or.inr ⟨hB, hA, h2 _ hR, h1 _ hP, e⟩
section
variable {n k : Nat} {lab plab : Nat → Nat} {S T : Nat → Int32} {ci cj : Int32} {el fr to_ at_ oc : Nat → Nat} {h hC hM : List zE}
theorem mv_cls (hv : Mv (Dia n lab S ci el fr to_ at_ oc) (Dr k plab T cj) h) : Cls h := ⟨n, lab, S, ci, k, plab, T, cj, mv_mono hv (fun x hx => dia_dr hx) (fun x hx => hx)⟩
theorem dia_ed (hD : Dia n lab S ci el fr to_ at_ oc h) : Ed n lab S el fr to_ at_ ∧ PcE (2 * n) n fr to_ oc ∧ n ≤ 20 := by
  obtain ⟨L, PL, LB, FR, TO, AT, OF, RD, ST, OC, CE, SL, rfl, hR, hG, hz, hE, hA, hRd, hO, hP, hOF⟩ := hD
  exact ⟨hE, hP, hR.1⟩
theorem mv_ed (hv : Mv (Dia n lab S ci el fr to_ at_ oc) (Dr k plab T cj) h) : Ed n lab S el fr to_ at_ ∧ PcE (2 * n) n fr to_ oc ∧ n ≤ 20 := by
  rcases hv with ⟨hA, hB, hP, hR, e⟩ | ⟨hB, hA, hR, hP, e⟩
  · exact dia_ed hP
  · exact dia_ed hP
theorem mv_chq {n' : Nat} {lab' : Nat → Nat} {S' : Nat → Int32} {ci' : Int32} (hv : Mv (ChQ n' lab' S' ci') (Dr k plab T cj) h) (hval : C1 n' lab' ∧ C2 n' lab' S') : ∃ el fr to_ at_ oc : Nat → Nat, Mv (Dia n' lab' S' ci' el fr to_ at_ oc) (Dr k plab T cj) h := by
  rcases hv with ⟨hA, hB, hP, hR, e⟩ | ⟨hB, hA, hR, hP, e⟩
  · obtain ⟨el, fr, to_, at_, oc, hD⟩ := chq_dia hP hval
    exact ⟨el, fr, to_, at_, oc, Or.inl ⟨hA, hB, hD, hR, e⟩⟩
  · obtain ⟨el, fr, to_, at_, oc, hD⟩ := chq_dia hP hval
    exact ⟨el, fr, to_, at_, oc, Or.inr ⟨hB, hA, hR, hD, e⟩⟩
theorem ge_nat {x : Int32} {F : Nat} (hF : F < 2 ^ 31) (h : 0 ≤ x ∧ x < nI F) : ∃ j, j < F ∧ x = nI j := by
  obtain ⟨h1, h2⟩ := h
  have e0 : (0 : Int32).toInt = 0 := by decide
  rw [Int32.le_iff_toInt_le, e0] at h1
  rw [Int32.lt_iff_toInt_lt, nI_toInt hF] at h2
  refine ⟨x.toInt.toNat, by omega, ?_⟩
  apply Int32.toInt_inj.mp
  rw [nI_toInt (by omega)]
  omega
theorem pat_3 {nx : Nat → Nat} {l t : Nat} (h : pat fr to_ nx l t = 3) : t = 3 ∧ isTri fr to_ l (nx l) (nx (nx l)) := by
  unfold pat at h
  by_cases c1 : t = 1
  · rw [if_pos c1] at h; omega
  · rw [if_neg c1] at h
    by_cases c2 : t = 2
    · rw [if_pos c2] at h
      split at h <;> omega
    · rw [if_neg c2] at h
      by_cases c3 : t = 3
      · rw [if_pos c3] at h
        split at h
        · rename_i q; exact ⟨c3, q⟩
        · omega
      · rw [if_neg c3] at h; omega
theorem mdl_zero {plab' : Nat → Nat} {T' : Nat → Int32} (hm : Mdl 0 plab T n lab S ci h) : Mdl 0 plab' T' n lab S ci h := by
  obtain ⟨wrong, pS, pL, oN, oC, S, L, oS, oL, labs, row, fresh, piece, closed, faces, comp, fof, sides, side, free, arnd, rfl, hR, hS, hG, hPR, hPS, hPG⟩ := hm
  exact ⟨_, _, _, _, _, _, _, _, _, _, _, _, _, _, _, _, _, _, _, _, _, rfl, hR, hS, hG, ⟨by omega, fun q hq => absurd hq (by omega)⟩, fun c hc => absurd hc (Nat.not_lt_zero c), fun c hc => absurd hc (Nat.not_lt_zero c)⟩
theorem mv_many (hv : Mv (Dia n lab S ci el fr to_ at_ oc) (Dr k plab T cj) h) (x : Int32) : zMet y_Mov_many b_Mov_many 2 (some .int) ⟨1, 0, 0, 24⟩ [.ref 0, .int x] h (fun r h' => r = some (.int (mny n S ci (FF (nxD fr to_ at_) (4 * n) (4 * n)).2 (FF (nxE to_ at_) (2 * n) (2 * n)).2 (rc oc n) k (fN el 0 (2 * n)) x)) ∧ h' = h) := by
  rcases hv with ⟨hA, hB, hP, hR, rfl⟩ | ⟨hB, hA, hR, hP, rfl⟩
  · exact m_Mov_many_1 hP hR x
  · exact m_Mov_many_2 hP hR x
theorem mv_look (hv : Mv (Dia n lab S ci el fr to_ at_ oc) (Dr k plab T cj) h) (j w : Nat) (hj : j < n) (hw : w ≤ 4) : zMet y_Mov_look b_Mov_look 3 (some .int) ⟨0, 0, 0, 0⟩ [.ref 0, .int (nI j), .int (nI w)] h (fun r h' => r = some (.int (if w = 4 then S j else nI (lab (4 * j + w)))) ∧ h' = h) := by
  rcases hv with ⟨hA, hB, hP, hR, rfl⟩ | ⟨hB, hA, hR, hP, rfl⟩
  · exact m_Mov_look_1 hP hR j w hj hw
  · exact m_Mov_look_2 hP hR j w hj hw
theorem mv_look_no (hv : Mv (Dia n lab S ci el fr to_ at_ oc) (Dr k plab T cj) h) (x w : Int32) (hx : x < 0 ∨ nI n ≤ x ∨ w < 0 ∨ nI 4 < w) : zMet y_Mov_look b_Mov_look 3 (some .int) ⟨0, 0, 0, 0⟩ [.ref 0, .int x, .int w] h (fun r h' => r = some (.int (nI 0)) ∧ h' = h) := by
  rcases hv with ⟨hA, hB, hP, hR, rfl⟩ | ⟨hB, hA, hR, hP, rfl⟩
  · exact m_Mov_look_no_1 hP hR x w hx
  · exact m_Mov_look_no_2 hP hR x w hx
theorem mv_face_no (hv : Mv (Dia n lab S ci el fr to_ at_ oc) (Dr k plab T cj) h) (x y : Int32) (hx : ¬ (0 ≤ x ∧ x < nI (FF (nxD fr to_ at_) (4 * n) (4 * n)).2)) : zMet y_Mov_face b_Mov_face 4 (some .int) ⟨1, 0, 0, 24⟩ [.ref 0, .int x, .int y] h (fun r h' => r = some (.int (nI 0)) ∧ h' = h) := by
  rcases hv with ⟨hA, hB, hP, hR, rfl⟩ | ⟨hB, hA, hR, hP, rfl⟩
  · exact m_Mov_face_no_1 hP hR x y hx
  · exact m_Mov_face_no_2 hP hR x y hx
theorem mv_face (hv : Mv (Dia n lab S ci el fr to_ at_ oc) (Dr k plab T cj) h) (j l t : Nat) (y : Int32) (hj : j < (FF (nxD fr to_ at_) (4 * n) (4 * n)).2) (hF : FaceK n (nxD fr to_ at_) j l t) : zMet y_Mov_face b_Mov_face 4 (some .int) ⟨1, 0, 0, 24⟩ [.ref 0, .int (nI j), .int y] h (fun r h' => h' = h ∧ ((y = -1 ∧ r = some (.int (nI t))) ∨ (¬ y = -1 ∧ (y < 0 ∨ nI t ≤ y) ∧ r = some (.int (nI 0))) ∨ (∃ i, i < t ∧ y = nI i ∧ r = some (.int (if it (nxD fr to_ at_) i l % 2 = 0 then nI (el (it (nxD fr to_ at_) i l / 2)) else -(nI (el (it (nxD fr to_ at_) i l / 2)))))))) := by
  rcases hv with ⟨hA, hB, hP, hR, rfl⟩ | ⟨hB, hA, hR, hP, rfl⟩
  · exact m_Mov_face_1 hP hR j l t y hj hF
  · exact m_Mov_face_2 hP hR j l t y hj hF
theorem mv_pattern_no (hv : Mv (Dia n lab S ci el fr to_ at_ oc) (Dr k plab T cj) h) (x : Int32) (hx : ¬ (0 ≤ x ∧ x < nI (FF (nxD fr to_ at_) (4 * n) (4 * n)).2)) : zMet y_Mov_pattern b_Mov_pattern 2 (some .int) ⟨4, 0, 0, 115⟩ [.ref 0, .int x] h (fun r h' => r = some (.int (-1)) ∧ h' = h) := by
  rcases hv with ⟨hA, hB, hP, hR, rfl⟩ | ⟨hB, hA, hR, hP, rfl⟩
  · exact m_Mov_pattern_no_1 hP hR x hx
  · exact m_Mov_pattern_no_2 hP hR x hx
theorem mv_pattern (hv : Mv (Dia n lab S ci el fr to_ at_ oc) (Dr k plab T cj) h) (j l t : Nat) (hj : j < (FF (nxD fr to_ at_) (4 * n) (4 * n)).2) (hF : FaceK n (nxD fr to_ at_) j l t) : zMet y_Mov_pattern b_Mov_pattern 2 (some .int) ⟨4, 0, 0, 115⟩ [.ref 0, .int (nI j)] h (fun r h' => r = some (.int (nI (pat fr to_ (nxD fr to_ at_) l t))) ∧ h' = h) := by
  rcases hv with ⟨hA, hB, hP, hR, rfl⟩ | ⟨hB, hA, hR, hP, rfl⟩
  · exact m_Mov_pattern_1 hP hR j l t hj hF
  · exact m_Mov_pattern_2 hP hR j l t hj hF
theorem mv_undo_no (hv : Mv (Dia n lab S ci el fr to_ at_ oc) (Dr k plab T cj) h) (x : Int32) (hx : ¬ (0 ≤ x ∧ x < nI (FF (nxD fr to_ at_) (4 * n) (4 * n)).2)) : zMet y_Mov_undo b_Mov_undo 2 (some .int) ⟨6, 0, 0, 170⟩ [.ref 0, .int x] h (fun r h' => r = some (.int (nI 0)) ∧ h' = h) := by
  rcases hv with ⟨hA, hB, hP, hR, rfl⟩ | ⟨hB, hA, hR, hP, rfl⟩
  · exact m_Mov_undo_no_1 hP hR x hx
  · exact m_Mov_undo_no_2 hP hR x hx
theorem mv_undo_0 (hv : Mv (Dia n lab S ci el fr to_ at_ oc) (Dr k plab T cj) h) (j l t : Nat) (hj : j < (FF (nxD fr to_ at_) (4 * n) (4 * n)).2) (hF : FaceK n (nxD fr to_ at_) j l t) (hp : ¬ (pat fr to_ (nxD fr to_ at_) l t = 1 ∨ pat fr to_ (nxD fr to_ at_) l t = 2)) : zMet y_Mov_undo b_Mov_undo 2 (some .int) ⟨6, 0, 0, 170⟩ [.ref 0, .int (nI j)] h (fun r h' => r = some (.int (nI 0)) ∧ h' = h) := by
  rcases hv with ⟨hA, hB, hP, hR, rfl⟩ | ⟨hB, hA, hR, hP, rfl⟩
  · exact m_Mov_undo_0_1 hP hR j l t hj hF hp
  · exact m_Mov_undo_0_2 hP hR j l t hj hF hp
theorem mv_undo_1 (hv : Mv (Dia n lab S ci el fr to_ at_ oc) (Dr k plab T cj) h) (j l t : Nat) (hj : j < (FF (nxD fr to_ at_) (4 * n) (4 * n)).2) (hF : FaceK n (nxD fr to_ at_) j l t) (hp : pat fr to_ (nxD fr to_ at_) l t = 1) : zMet y_Mov_undo b_Mov_undo 2 (some .int) ⟨6, 0, 0, 170⟩ [.ref 0, .int (nI j)] h (fun r h' => r = some (.int (nI 1)) ∧ Mv (ChQ (n - 1) (lfL lab S (ca fr to_ l)) (rmS S n (ca fr to_ l)) (lfC lab S (ca fr to_ l) ci)) (Dr k plab T cj) h') := by
  rcases hv with ⟨hA, hB, hP, hR, rfl⟩ | ⟨hB, hA, hR, hP, rfl⟩
  · exact m_Mov_undo_1_1 hP hR j l t hj hF hp
  · exact m_Mov_undo_1_2 hP hR j l t hj hF hp
theorem mv_undo_2 (hv : Mv (Dia n lab S ci el fr to_ at_ oc) (Dr k plab T cj) h) (j l t : Nat) (hj : j < (FF (nxD fr to_ at_) (4 * n) (4 * n)).2) (hF : FaceK n (nxD fr to_ at_) j l t) (a b : Nat) (hp : pat fr to_ (nxD fr to_ at_) l t = 2) (ha : a = mn (ca fr to_ l) (ca fr to_ (nxD fr to_ at_ l))) (hb : b = mx (ca fr to_ l) (ca fr to_ (nxD fr to_ at_ l)) - 1) : zMet y_Mov_undo b_Mov_undo 2 (some .int) ⟨6, 0, 0, 170⟩ [.ref 0, .int (nI j)] h (fun r h' => r = some (.int (nI 2)) ∧ a < n ∧ b < n - 1 ∧ Mv (ChQ (n - 1 - 1) (lfL (lfL lab S a) (rmS S n a) b) (rmS (rmS S n a) (n - 1) b) (lfC (lfL lab S a) (rmS S n a) b (lfC lab S a ci))) (Dr k plab T cj) h') := by
  rcases hv with ⟨hA, hB, hP, hR, rfl⟩ | ⟨hB, hA, hR, hP, rfl⟩
  · exact m_Mov_undo_2_1 hP hR j l t hj hF a b hp ha hb
  · exact m_Mov_undo_2_2 hP hR j l t hj hF a b hp ha hb
theorem mv_slide_no (hv : Mv (Dia n lab S ci el fr to_ at_ oc) (Dr k plab T cj) h) (x : Int32) (hx : ¬ (0 ≤ x ∧ x < nI (FF (nxD fr to_ at_) (4 * n) (4 * n)).2)) : zMet y_Mov_slide b_Mov_slide 2 (some .boolean) ⟨6, 0, 0, 170⟩ [.ref 0, .int x] h (fun r h' => r = some (.int (nI 0)) ∧ h' = h) := by
  rcases hv with ⟨hA, hB, hP, hR, rfl⟩ | ⟨hB, hA, hR, hP, rfl⟩
  · exact m_Mov_slide_no_1 hP hR x hx
  · exact m_Mov_slide_no_2 hP hR x hx
theorem mv_slide_0 (hv : Mv (Dia n lab S ci el fr to_ at_ oc) (Dr k plab T cj) h) (j l t : Nat) (hj : j < (FF (nxD fr to_ at_) (4 * n) (4 * n)).2) (hF : FaceK n (nxD fr to_ at_) j l t) (hp : pat fr to_ (nxD fr to_ at_) l t ≠ 3) : zMet y_Mov_slide b_Mov_slide 2 (some .boolean) ⟨6, 0, 0, 170⟩ [.ref 0, .int (nI j)] h (fun r h' => r = some (.int (nI 0)) ∧ h' = h) := by
  rcases hv with ⟨hA, hB, hP, hR, rfl⟩ | ⟨hB, hA, hR, hP, rfl⟩
  · exact m_Mov_slide_0_1 hP hR j l t hj hF hp
  · exact m_Mov_slide_0_2 hP hR j l t hj hF hp
theorem mv_slide_3 (hv : Mv (Dia n lab S ci el fr to_ at_ oc) (Dr k plab T cj) h) (j l t : Nat) (hj : j < (FF (nxD fr to_ at_) (4 * n) (4 * n)).2) (hF : FaceK n (nxD fr to_ at_) j l t) (hp : pat fr to_ (nxD fr to_ at_) l t = 3) : zMet y_Mov_slide b_Mov_slide 2 (some .boolean) ⟨6, 0, 0, 170⟩ [.ref 0, .int (nI j)] h (fun r h' => r = some (.int (nI 1)) ∧ t = 3 ∧ Mv (ChQ n (sl3 el fr to_ lab (l / 2) (nxD fr to_ at_ l / 2) (nxD fr to_ at_ (nxD fr to_ at_ l) / 2)) S ci) (Dr k plab T cj) h') := by
  rcases hv with ⟨hA, hB, hP, hR, rfl⟩ | ⟨hB, hA, hR, hP, rfl⟩
  · exact m_Mov_slide_3_1 hP hR j l t hj hF hp
  · exact m_Mov_slide_3_2 hP hR j l t hj hF hp
theorem mv_twist_no (hv : Mv (Dia n lab S ci el fr to_ at_ oc) (Dr k plab T cj) h) (x sg y : Int32) (hx : ¬ (sg = nI 1 ∨ sg = -1) ∨ 20 ≤ n ∨ (x = 0 ∧ ¬ 0 < ci) ∨ (¬ x = 0 ∧ ∀ e, e < 2 * n → ¬ nI (el e) = x)) : zMet y_Mov_twist b_Mov_twist 4 (some .boolean) ⟨7, 0, 0, 200⟩ [.ref 0, .int x, .int sg, .int y] h (fun r h' => r = some (.int (nI 0)) ∧ h' = h) := by
  rcases hv with ⟨hA, hB, hP, hR, rfl⟩ | ⟨hB, hA, hR, hP, rfl⟩
  · exact m_Mov_twist_no_1 hP hR x sg y hx
  · exact m_Mov_twist_no_2 hP hR x sg y hx
theorem mv_twist_c (hv : Mv (Dia n lab S ci el fr to_ at_ oc) (Dr k plab T cj) h) (ab : Bool) (sg : Int32) (hs : sg = nI 1 ∨ sg = -1) (hn20 : n < 20) (hc : 0 < ci) : zMet y_Mov_twist b_Mov_twist 4 (some .boolean) ⟨7, 1, 3, 200⟩ [.ref 0, .int 0, .int sg, .int (bI ab)] h (fun r h' => r = some (.int (nI 1)) ∧ Mv (ChQ (n + 1) (cr lab n sg ab (!ab) (fN el (fN el 0 (2 * n)) (2 * n)) (fN el 0 (2 * n)) (fN el (fN el 0 (2 * n)) (2 * n)) (fN el (fN el 0 (2 * n)) (2 * n)) (fN el 0 (2 * n)) (fN el (fN el 0 (2 * n)) (2 * n))) (upd S n sg) (ci - nI 1)) (Dr k plab T cj) h') := by
  rcases hv with ⟨hA, hB, hP, hR, rfl⟩ | ⟨hB, hA, hR, hP, rfl⟩
  · exact m_Mov_twist_c_1 hP hR ab sg hs hn20 hc
  · exact m_Mov_twist_c_2 hP hR ab sg hs hn20 hc
theorem mv_twist_e (hv : Mv (Dia n lab S ci el fr to_ at_ oc) (Dr k plab T cj) h) (ab : Bool) (sg : Int32) (hs : sg = nI 1 ∨ sg = -1) (hn20 : n < 20) (e : Nat) (he : e < 2 * n) : zMet y_Mov_twist b_Mov_twist 4 (some .boolean) ⟨7, 1, 3, 200⟩ [.ref 0, .int (nI (el e)), .int sg, .int (bI ab)] h (fun r h' => r = some (.int (nI 1)) ∧ Mv (ChQ (n + 1) (cr (va_up lab (to_ e) (fN el (fN el 0 (2 * n)) (2 * n))) n sg ab (!ab) (el e) (fN el 0 (2 * n)) (fN el (fN el 0 (2 * n)) (2 * n)) (el e) (fN el 0 (2 * n)) (fN el (fN el 0 (2 * n)) (2 * n))) (upd S n sg) ci) (Dr k plab T cj) h') := by
  rcases hv with ⟨hA, hB, hP, hR, rfl⟩ | ⟨hB, hA, hR, hP, rfl⟩
  · exact m_Mov_twist_e_1 hP hR ab sg hs hn20 e he
  · exact m_Mov_twist_e_2 hP hR ab sg hs hn20 e he
theorem mv_simplify (hv : Mv (Dia n lab S ci el fr to_ at_ oc) (Dr k plab T cj) h)  : zMet y_Mov_simplify b_Mov_simplify 4 (some .int) ⟨6, 0, 0, 170⟩ [.ref 0] h (fun r h' => ∃ (g n' : Nat) (lab' : Nat → Nat) (S' : Nat → Int32) (ci' : Int32), r = some (.int (nI g)) ∧ Simp 20 n lab S ci g n' lab' S' ci' ∧ ∃ el' fr' to' at' oc' : Nat → Nat, Mv (Dia n' lab' S' ci' el' fr' to' at' oc') (Dr k plab T cj) h') := by
  rcases hv with ⟨hA, hB, hP, hR, rfl⟩ | ⟨hB, hA, hR, hP, rfl⟩
  · exact m_Mov_simplify_1 hP hR
  · exact m_Mov_simplify_2 hP hR
theorem mv_push_00 (hv : Mv (Dia n lab S ci el fr to_ at_ oc) (Dr k plab T cj) h) (x y : Int32) (ov : Bool) (u v w z : Nat) (hu : u = fN el 0 (2 * n)) (hv' : v = fN el u (2 * n)) (hw : w = fN el v (2 * n)) (hzz : z = fN el w (2 * n)) : zMet y_Mov_push b_Mov_push 8 (some .boolean) ⟨7, 2, 6, 200⟩ [.ref 0, .int x, .int (bI false), .int y, .int (bI false), .int (bI ov)] h (fun r h' => (r = some (.int (nI 0)) ∧ h' = h ∧ ∀ e f, ¬ PushOK n el fr to_ at_ oc x y false false e f) ∨ (∃ e f, PushOK n el fr to_ at_ oc x y false false e f ∧ r = some (.int (nI 1)) ∧ Mv (ChQ (n + 1 + 1) (phL ov true true (va_up (va_up lab (to_ e) v) (to_ f) z) n (el e) u v (el f) w z) (upd (upd S n (phS ov true true)) (n + 1) (-phS ov true true)) ci) (Dr k plab T cj) h')) := by
  have de : ∀ i : Nat, decide ((2 * i + dI false) % 2 = 0) = true ∧ (2 * i + dI false) / 2 = i := fun i => ⟨by rw [decide_eq_true_eq]; unfold dI; rw [if_neg (by decide)]; omega, by unfold dI; rw [if_neg (by decide)]; omega⟩
  have df : ∀ i : Nat, decide ((2 * i + dI false) % 2 = 0) = true ∧ (2 * i + dI false) / 2 = i := fun i => ⟨by rw [decide_eq_true_eq]; unfold dI; rw [if_neg (by decide)]; omega, by unfold dI; rw [if_neg (by decide)]; omega⟩
  rcases hv with ⟨hA, hB, hP, hR, rfl⟩ | ⟨hB, hA, hR, hP, rfl⟩
  · refine (m_Mov_push_00_1 hP hR x y ov u v w z hu hv' hw hzz).mono (fun r h' hq => ?_)
    rcases hq with hq | ⟨e, f, q1, q2, q3⟩
    · exact Or.inl hq
    · rw [(de e).1, (de e).2, (df f).1, (df f).2] at q3
      exact Or.inr ⟨e, f, q1, q2, q3⟩
  · refine (m_Mov_push_00_2 hP hR x y ov u v w z hu hv' hw hzz).mono (fun r h' hq => ?_)
    rcases hq with hq | ⟨e, f, q1, q2, q3⟩
    · exact Or.inl hq
    · rw [(de e).1, (de e).2, (df f).1, (df f).2] at q3
      exact Or.inr ⟨e, f, q1, q2, q3⟩
theorem mv_push_01 (hv : Mv (Dia n lab S ci el fr to_ at_ oc) (Dr k plab T cj) h) (x y : Int32) (ov : Bool) (u v w z : Nat) (hu : u = fN el 0 (2 * n)) (hv' : v = fN el u (2 * n)) (hw : w = fN el v (2 * n)) (hzz : z = fN el w (2 * n)) : zMet y_Mov_push b_Mov_push 8 (some .boolean) ⟨7, 2, 6, 200⟩ [.ref 0, .int x, .int (bI false), .int y, .int (bI true), .int (bI ov)] h (fun r h' => (r = some (.int (nI 0)) ∧ h' = h ∧ ∀ e f, ¬ PushOK n el fr to_ at_ oc x y false true e f) ∨ (∃ e f, PushOK n el fr to_ at_ oc x y false true e f ∧ r = some (.int (nI 1)) ∧ Mv (ChQ (n + 1 + 1) (phL ov true false (va_up (va_up lab (to_ e) v) (to_ f) z) n (el e) u v (el f) w z) (upd (upd S n (phS ov true false)) (n + 1) (-phS ov true false)) ci) (Dr k plab T cj) h')) := by
  have de : ∀ i : Nat, decide ((2 * i + dI false) % 2 = 0) = true ∧ (2 * i + dI false) / 2 = i := fun i => ⟨by rw [decide_eq_true_eq]; unfold dI; rw [if_neg (by decide)]; omega, by unfold dI; rw [if_neg (by decide)]; omega⟩
  have df : ∀ i : Nat, decide ((2 * i + dI true) % 2 = 0) = false ∧ (2 * i + dI true) / 2 = i := fun i => ⟨by rw [decide_eq_false_iff_not]; unfold dI; rw [if_pos rfl]; omega, by unfold dI; rw [if_pos rfl]; omega⟩
  rcases hv with ⟨hA, hB, hP, hR, rfl⟩ | ⟨hB, hA, hR, hP, rfl⟩
  · refine (m_Mov_push_01_1 hP hR x y ov u v w z hu hv' hw hzz).mono (fun r h' hq => ?_)
    rcases hq with hq | ⟨e, f, q1, q2, q3⟩
    · exact Or.inl hq
    · rw [(de e).1, (de e).2, (df f).1, (df f).2] at q3
      exact Or.inr ⟨e, f, q1, q2, q3⟩
  · refine (m_Mov_push_01_2 hP hR x y ov u v w z hu hv' hw hzz).mono (fun r h' hq => ?_)
    rcases hq with hq | ⟨e, f, q1, q2, q3⟩
    · exact Or.inl hq
    · rw [(de e).1, (de e).2, (df f).1, (df f).2] at q3
      exact Or.inr ⟨e, f, q1, q2, q3⟩
theorem mv_push_10 (hv : Mv (Dia n lab S ci el fr to_ at_ oc) (Dr k plab T cj) h) (x y : Int32) (ov : Bool) (u v w z : Nat) (hu : u = fN el 0 (2 * n)) (hv' : v = fN el u (2 * n)) (hw : w = fN el v (2 * n)) (hzz : z = fN el w (2 * n)) : zMet y_Mov_push b_Mov_push 8 (some .boolean) ⟨7, 2, 6, 200⟩ [.ref 0, .int x, .int (bI true), .int y, .int (bI false), .int (bI ov)] h (fun r h' => (r = some (.int (nI 0)) ∧ h' = h ∧ ∀ e f, ¬ PushOK n el fr to_ at_ oc x y true false e f) ∨ (∃ e f, PushOK n el fr to_ at_ oc x y true false e f ∧ r = some (.int (nI 1)) ∧ Mv (ChQ (n + 1 + 1) (phL ov false true (va_up (va_up lab (to_ e) v) (to_ f) z) n (el e) u v (el f) w z) (upd (upd S n (phS ov false true)) (n + 1) (-phS ov false true)) ci) (Dr k plab T cj) h')) := by
  have de : ∀ i : Nat, decide ((2 * i + dI true) % 2 = 0) = false ∧ (2 * i + dI true) / 2 = i := fun i => ⟨by rw [decide_eq_false_iff_not]; unfold dI; rw [if_pos rfl]; omega, by unfold dI; rw [if_pos rfl]; omega⟩
  have df : ∀ i : Nat, decide ((2 * i + dI false) % 2 = 0) = true ∧ (2 * i + dI false) / 2 = i := fun i => ⟨by rw [decide_eq_true_eq]; unfold dI; rw [if_neg (by decide)]; omega, by unfold dI; rw [if_neg (by decide)]; omega⟩
  rcases hv with ⟨hA, hB, hP, hR, rfl⟩ | ⟨hB, hA, hR, hP, rfl⟩
  · refine (m_Mov_push_10_1 hP hR x y ov u v w z hu hv' hw hzz).mono (fun r h' hq => ?_)
    rcases hq with hq | ⟨e, f, q1, q2, q3⟩
    · exact Or.inl hq
    · rw [(de e).1, (de e).2, (df f).1, (df f).2] at q3
      exact Or.inr ⟨e, f, q1, q2, q3⟩
  · refine (m_Mov_push_10_2 hP hR x y ov u v w z hu hv' hw hzz).mono (fun r h' hq => ?_)
    rcases hq with hq | ⟨e, f, q1, q2, q3⟩
    · exact Or.inl hq
    · rw [(de e).1, (de e).2, (df f).1, (df f).2] at q3
      exact Or.inr ⟨e, f, q1, q2, q3⟩
theorem mv_push_11 (hv : Mv (Dia n lab S ci el fr to_ at_ oc) (Dr k plab T cj) h) (x y : Int32) (ov : Bool) (u v w z : Nat) (hu : u = fN el 0 (2 * n)) (hv' : v = fN el u (2 * n)) (hw : w = fN el v (2 * n)) (hzz : z = fN el w (2 * n)) : zMet y_Mov_push b_Mov_push 8 (some .boolean) ⟨7, 2, 6, 200⟩ [.ref 0, .int x, .int (bI true), .int y, .int (bI true), .int (bI ov)] h (fun r h' => (r = some (.int (nI 0)) ∧ h' = h ∧ ∀ e f, ¬ PushOK n el fr to_ at_ oc x y true true e f) ∨ (∃ e f, PushOK n el fr to_ at_ oc x y true true e f ∧ r = some (.int (nI 1)) ∧ Mv (ChQ (n + 1 + 1) (phL ov false false (va_up (va_up lab (to_ e) v) (to_ f) z) n (el e) u v (el f) w z) (upd (upd S n (phS ov false false)) (n + 1) (-phS ov false false)) ci) (Dr k plab T cj) h')) := by
  have de : ∀ i : Nat, decide ((2 * i + dI true) % 2 = 0) = false ∧ (2 * i + dI true) / 2 = i := fun i => ⟨by rw [decide_eq_false_iff_not]; unfold dI; rw [if_pos rfl]; omega, by unfold dI; rw [if_pos rfl]; omega⟩
  have df : ∀ i : Nat, decide ((2 * i + dI true) % 2 = 0) = false ∧ (2 * i + dI true) / 2 = i := fun i => ⟨by rw [decide_eq_false_iff_not]; unfold dI; rw [if_pos rfl]; omega, by unfold dI; rw [if_pos rfl]; omega⟩
  rcases hv with ⟨hA, hB, hP, hR, rfl⟩ | ⟨hB, hA, hR, hP, rfl⟩
  · refine (m_Mov_push_11_1 hP hR x y ov u v w z hu hv' hw hzz).mono (fun r h' hq => ?_)
    rcases hq with hq | ⟨e, f, q1, q2, q3⟩
    · exact Or.inl hq
    · rw [(de e).1, (de e).2, (df f).1, (df f).2] at q3
      exact Or.inr ⟨e, f, q1, q2, q3⟩
  · refine (m_Mov_push_11_2 hP hR x y ov u v w z hu hv' hw hzz).mono (fun r h' hq => ?_)
    rcases hq with hq | ⟨e, f, q1, q2, q3⟩
    · exact Or.inl hq
    · rw [(de e).1, (de e).2, (df f).1, (df f).2] at q3
      exact Or.inr ⟨e, f, q1, q2, q3⟩
theorem el_uq (hm : Mdl k plab T n lab S ci h) (hE : Ed n lab S el fr to_ at_) {i j : Nat} (hi : i < 2 * n) (hj : j < 2 * n) (he : nI (el i) = nI (el j)) : i = j := by
  obtain ⟨wrong, pS, pL, oN, oC, S, L, oS, oL, labs, row, fresh, piece, closed, faces, comp, fof, sides, side, free, arnd, rfl, hR, hS, hG, hPR, hPS, hPG⟩ := hm
  exact el_uniq hR hE hi hj he
theorem duo_many (hR : Rl hC hM) (x : Int32) : Duo y_Mov_many b_Mov_many 2 .int y_Mod_many b_Mod_many 2 .int [.int x] hC hM := by
  obtain ⟨n, lab, S, ci, el, fr, to_, at_, oc, k, plab, T, cj, hv, hm⟩ := hR
  obtain ⟨hE, hP, hn⟩ := mv_ed hv
  refine ⟨_, _, Nat.le_of_ble_eq_true rfl, Nat.le_of_ble_eq_true rfl, Nat.le_of_ble_eq_true rfl, Nat.le_of_ble_eq_true rfl, mv_many hv x, fun r h' hq => ?_⟩
  obtain ⟨rfl, rfl⟩ := hq
  refine ⟨_, rfl, mv_cls hv, _, _, Nat.le_of_ble_eq_true rfl, Nat.le_of_ble_eq_true rfl, Nat.le_of_ble_eq_true rfl, Nat.le_of_ble_eq_true rfl, m_Mod_many hm hE hP x, fun r' h'' hq => ?_⟩
  exact ⟨hq.1, n, lab, S, ci, el, fr, to_, at_, oc, k, plab, T, cj, hv, hq.2⟩
theorem duo_look (hR : Rl hC hM) (x w : Int32) : Duo y_Mov_look b_Mov_look 3 .int y_Mod_look b_Mod_look 3 .int [.int x, .int w] hC hM := by
  obtain ⟨n, lab, S, ci, el, fr, to_, at_, oc, k, plab, T, cj, hv, hm⟩ := hR
  obtain ⟨hE, hP, hn⟩ := mv_ed hv
  by_cases c : x < 0 ∨ nI n ≤ x ∨ w < 0 ∨ nI 4 < w
  · refine ⟨_, _, Nat.le_of_ble_eq_true rfl, Nat.le_of_ble_eq_true rfl, Nat.le_of_ble_eq_true rfl, Nat.le_of_ble_eq_true rfl, mv_look_no hv x w c, fun r h' hq => ?_⟩
    obtain ⟨rfl, rfl⟩ := hq
    refine ⟨_, rfl, mv_cls hv, _, _, Nat.le_of_ble_eq_true rfl, Nat.le_of_ble_eq_true rfl, Nat.le_of_ble_eq_true rfl, Nat.le_of_ble_eq_true rfl, m_Mod_look_no hm x w c, fun r' h'' hq => ?_⟩
    obtain ⟨rfl, rfl⟩ := hq
    exact ⟨rfl, n, lab, S, ci, el, fr, to_, at_, oc, k, plab, T, cj, hv, hm⟩
  · obtain ⟨j, hj, rfl⟩ := ge_nat (x := x) (F := n) (by omega) ⟨Int32.not_lt.mp (fun z => c (Or.inl z)), Int32.not_le.mp (fun z => c (Or.inr (Or.inl z)))⟩
    obtain ⟨i, hi, rfl⟩ := ge_nat (x := w) (F := 5) (by omega) ⟨Int32.not_lt.mp (fun z => c (Or.inr (Or.inr (Or.inl z)))), by
      have h4 : w ≤ nI 4 := Int32.not_lt.mp (fun z => c (Or.inr (Or.inr (Or.inr z))))
      exact Int32.lt_of_le_of_lt h4 (by decide)⟩
    refine ⟨_, _, Nat.le_of_ble_eq_true rfl, Nat.le_of_ble_eq_true rfl, Nat.le_of_ble_eq_true rfl, Nat.le_of_ble_eq_true rfl, mv_look hv j i hj (by omega), fun r h' hq => ?_⟩
    obtain ⟨rfl, rfl⟩ := hq
    refine ⟨_, rfl, mv_cls hv, _, _, Nat.le_of_ble_eq_true rfl, Nat.le_of_ble_eq_true rfl, Nat.le_of_ble_eq_true rfl, Nat.le_of_ble_eq_true rfl, m_Mod_look hm j i hj (by omega), fun r' h'' hq => ?_⟩
    obtain ⟨rfl, rfl⟩ := hq
    exact ⟨rfl, n, lab, S, ci, el, fr, to_, at_, oc, k, plab, T, cj, hv, hm⟩
theorem duo_face (hR : Rl hC hM) (x y : Int32) : Duo y_Mov_face b_Mov_face 4 .int y_Mod_face b_Mod_face 3 .int [.int x, .int y] hC hM := by
  obtain ⟨n, lab, S, ci, el, fr, to_, at_, oc, k, plab, T, cj, hv, hm⟩ := hR
  obtain ⟨hE, hP, hn⟩ := mv_ed hv
  have hFF := ff_le (by omega) (perm_D hE) (Nat.le_refl (4 * n))
  by_cases c : 0 ≤ x ∧ x < nI (FF (nxD fr to_ at_) (4 * n) (4 * n)).2
  · obtain ⟨j, hj, rfl⟩ := ge_nat (by omega) c
    obtain ⟨l, t, hF, ht⟩ := face_ex hn hE hj
    refine ⟨_, _, Nat.le_of_ble_eq_true rfl, Nat.le_of_ble_eq_true rfl, Nat.le_of_ble_eq_true rfl, Nat.le_of_ble_eq_true rfl, mv_face hv j l t y hj hF, fun r h' hq => ?_⟩
    obtain ⟨rfl, hq⟩ := hq
    have fin : ∀ v : Int32, r = some (.int v) → (∀ r' : Option Value, ((y = -1 ∧ r' = some (.int (nI t))) ∨ (¬ y = -1 ∧ (y < 0 ∨ nI t ≤ y) ∧ r' = some (.int (nI 0))) ∨ (∃ i, i < t ∧ y = nI i ∧ r' = some (.int (if it (nxD fr to_ at_) i l % 2 = 0 then nI (el (it (nxD fr to_ at_) i l / 2)) else -(nI (el (it (nxD fr to_ at_) i l / 2))))))) → r' = some (.int v)) → ∃ v : Int32, r = some (.int v) ∧ Cls h' ∧ ∃ (rM : Room) (Qm : Option Value → List zE → Prop), rM.frames ≤ 8 ∧ rM.locals ≤ 220 ∧ rM.cells ≤ 0 ∧ rM.slots ≤ 0 ∧ zMet y_Mod_face b_Mod_face 3 (some .int) rM [.ref 0, .int (nI j), .int y] hM Qm ∧ ∀ r' h'', Qm r' h'' → r' = some (.int v) ∧ Rl h' h'' := by
      intro v h1 h2
      refine ⟨v, h1, mv_cls hv, _, _, Nat.le_of_ble_eq_true rfl, Nat.le_of_ble_eq_true rfl, Nat.le_of_ble_eq_true rfl, Nat.le_of_ble_eq_true rfl, mm_face hm hE j l t y hj hF, fun r' h'' hq => ?_⟩
      exact ⟨h2 r' hq.1, n, lab, S, ci, el, fr, to_, at_, oc, k, plab, T, cj, hv, hq.2⟩
    have no : ∀ i, i < t → y = nI i → ¬ y = -1 ∧ ¬ (y < 0 ∨ nI t ≤ y) := by
      intro i hi he
      subst he
      refine ⟨fun z => ?_, fun z => ?_⟩
      · exact absurd (by rw [z]; decide : nI i < 0) (nI_pos (by omega))
      · rcases z with z | z
        · exact nI_pos (by omega) z
        · have := (nI_leI (by omega) (by omega)).mp z; omega
    rcases hq with ⟨q1, q2⟩ | ⟨q1, q2, q3⟩ | ⟨i, q1, q2, q3⟩
    · refine fin _ q2 (fun r' z => ?_)
      rcases z with ⟨-, z2⟩ | ⟨z1, -⟩ | ⟨i', z1, z2, -⟩
      · exact z2
      · exact absurd q1 z1
      · exact absurd q1 (no i' z1 z2).1
    · refine fin _ q3 (fun r' z => ?_)
      rcases z with ⟨z1, -⟩ | ⟨-, -, z3⟩ | ⟨i', z1, z2, -⟩
      · exact absurd z1 q1
      · exact z3
      · exact absurd q2 (no i' z1 z2).2
    · refine fin _ q3 (fun r' z => ?_)
      rcases z with ⟨z1, -⟩ | ⟨-, z2, -⟩ | ⟨i', z1, z2, z3⟩
      · exact absurd z1 (no i q1 q2).1
      · exact absurd z2 (no i q1 q2).2
      · have : i' = i := (nI_eq (by omega) (by omega)).mp (z2.symm.trans q2)
        subst this
        exact z3
  · refine ⟨_, _, Nat.le_of_ble_eq_true rfl, Nat.le_of_ble_eq_true rfl, Nat.le_of_ble_eq_true rfl, Nat.le_of_ble_eq_true rfl, mv_face_no hv x y c, fun r h' hq => ?_⟩
    obtain ⟨rfl, rfl⟩ := hq
    refine ⟨_, rfl, mv_cls hv, _, _, Nat.le_of_ble_eq_true rfl, Nat.le_of_ble_eq_true rfl, Nat.le_of_ble_eq_true rfl, Nat.le_of_ble_eq_true rfl, mm_face_no hm hE x y c, fun r' h'' hq => ?_⟩
    exact ⟨hq.1, n, lab, S, ci, el, fr, to_, at_, oc, k, plab, T, cj, hv, hq.2⟩
theorem duo_pattern (hR : Rl hC hM) (x : Int32) : Duo y_Mov_pattern b_Mov_pattern 2 .int y_Mod_pattern b_Mod_pattern 7 .int [.int x] hC hM := by
  obtain ⟨n, lab, S, ci, el, fr, to_, at_, oc, k, plab, T, cj, hv, hm⟩ := hR
  obtain ⟨hE, hP, hn⟩ := mv_ed hv
  have hFF := ff_le (by omega) (perm_D hE) (Nat.le_refl (4 * n))
  by_cases c : 0 ≤ x ∧ x < nI (FF (nxD fr to_ at_) (4 * n) (4 * n)).2
  · obtain ⟨j, hj, rfl⟩ := ge_nat (by omega) c
    obtain ⟨l, t, hF, ht⟩ := face_ex hn hE hj
    refine ⟨_, _, Nat.le_of_ble_eq_true rfl, Nat.le_of_ble_eq_true rfl, Nat.le_of_ble_eq_true rfl, Nat.le_of_ble_eq_true rfl, mv_pattern hv j l t hj hF, fun r h' hq => ?_⟩
    obtain ⟨rfl, rfl⟩ := hq
    refine ⟨_, rfl, mv_cls hv, _, _, Nat.le_of_ble_eq_true rfl, Nat.le_of_ble_eq_true rfl, Nat.le_of_ble_eq_true rfl, Nat.le_of_ble_eq_true rfl, mm_pattern hm hE j l t hj hF, fun r' h'' hq => ?_⟩
    exact ⟨hq.1, n, lab, S, ci, el, fr, to_, at_, oc, k, plab, T, cj, hv, hq.2⟩
  · refine ⟨_, _, Nat.le_of_ble_eq_true rfl, Nat.le_of_ble_eq_true rfl, Nat.le_of_ble_eq_true rfl, Nat.le_of_ble_eq_true rfl, mv_pattern_no hv x c, fun r h' hq => ?_⟩
    obtain ⟨rfl, rfl⟩ := hq
    refine ⟨_, rfl, mv_cls hv, _, _, Nat.le_of_ble_eq_true rfl, Nat.le_of_ble_eq_true rfl, Nat.le_of_ble_eq_true rfl, Nat.le_of_ble_eq_true rfl, mm_pattern_no hm hE x c, fun r' h'' hq => ?_⟩
    exact ⟨hq.1, n, lab, S, ci, el, fr, to_, at_, oc, k, plab, T, cj, hv, hq.2⟩
theorem duo_undo (hR : Rl hC hM) (x : Int32) : Duo y_Mov_undo b_Mov_undo 2 .int y_Mod_undo b_Mod_undo 5 .int [.int x] hC hM := by
  obtain ⟨n, lab, S, ci, el, fr, to_, at_, oc, k, plab, T, cj, hv, hm⟩ := hR
  obtain ⟨hE, hP, hn⟩ := mv_ed hv
  have hval := ed_val hE
  have hFF := ff_le (by omega) (perm_D hE) (Nat.le_refl (4 * n))
  by_cases c : 0 ≤ x ∧ x < nI (FF (nxD fr to_ at_) (4 * n) (4 * n)).2
  · obtain ⟨j, hj, rfl⟩ := ge_nat (by omega) c
    obtain ⟨l, t, hF, ht⟩ := face_ex hn hE hj
    have c0 : ca fr to_ l < n := by have := ar_lt hE hF.1; unfold ca; omega
    by_cases p1 : pat fr to_ (nxD fr to_ at_) l t = 1
    · refine ⟨_, _, Nat.le_of_ble_eq_true rfl, Nat.le_of_ble_eq_true rfl, Nat.le_of_ble_eq_true rfl, Nat.le_of_ble_eq_true rfl, mv_undo_1 hv j l t hj hF p1, fun r h' hq => ?_⟩
      obtain ⟨rfl, hq⟩ := hq
      obtain ⟨el', fr', to', at', oc', hv'⟩ := mv_chq hq (val_lift hval c0)
      refine ⟨_, rfl, mv_cls hv', _, _, Nat.le_of_ble_eq_true rfl, Nat.le_of_ble_eq_true rfl, Nat.le_of_ble_eq_true rfl, Nat.le_of_ble_eq_true rfl, m_Mod_undo_1 hm hE j l t hj hF p1, fun r' h'' hq => ?_⟩
      exact ⟨hq.1, _, _, _, _, el', fr', to', at', oc', k, plab, T, cj, hv', hq.2⟩
    · by_cases p2 : pat fr to_ (nxD fr to_ at_) l t = 2
      · refine ⟨_, _, Nat.le_of_ble_eq_true rfl, Nat.le_of_ble_eq_true rfl, Nat.le_of_ble_eq_true rfl, Nat.le_of_ble_eq_true rfl, mv_undo_2 hv j l t hj hF _ _ p2 rfl rfl, fun r h' hq => ?_⟩
        obtain ⟨rfl, han, hbn, hq⟩ := hq
        obtain ⟨el', fr', to', at', oc', hv'⟩ := mv_chq hq (val_lift (val_lift hval han) hbn)
        refine ⟨_, rfl, mv_cls hv', _, _, Nat.le_of_ble_eq_true rfl, Nat.le_of_ble_eq_true rfl, Nat.le_of_ble_eq_true rfl, Nat.le_of_ble_eq_true rfl, m_Mod_undo_2 hm hE j l t hj hF _ _ p2 rfl rfl, fun r' h'' hq => ?_⟩
        exact ⟨hq.1, _, _, _, _, el', fr', to', at', oc', k, plab, T, cj, hv', hq.2⟩
      · have p0 : ¬ (pat fr to_ (nxD fr to_ at_) l t = 1 ∨ pat fr to_ (nxD fr to_ at_) l t = 2) := fun z => z.elim p1 p2
        refine ⟨_, _, Nat.le_of_ble_eq_true rfl, Nat.le_of_ble_eq_true rfl, Nat.le_of_ble_eq_true rfl, Nat.le_of_ble_eq_true rfl, mv_undo_0 hv j l t hj hF p0, fun r h' hq => ?_⟩
        obtain ⟨rfl, rfl⟩ := hq
        refine ⟨_, rfl, mv_cls hv, _, _, Nat.le_of_ble_eq_true rfl, Nat.le_of_ble_eq_true rfl, Nat.le_of_ble_eq_true rfl, Nat.le_of_ble_eq_true rfl, m_Mod_undo_0 hm hE j l t hj hF p0, fun r' h'' hq => ?_⟩
        exact ⟨hq.1, n, lab, S, ci, el, fr, to_, at_, oc, k, plab, T, cj, hv, hq.2⟩
  · refine ⟨_, _, Nat.le_of_ble_eq_true rfl, Nat.le_of_ble_eq_true rfl, Nat.le_of_ble_eq_true rfl, Nat.le_of_ble_eq_true rfl, mv_undo_no hv x c, fun r h' hq => ?_⟩
    obtain ⟨rfl, rfl⟩ := hq
    refine ⟨_, rfl, mv_cls hv, _, _, Nat.le_of_ble_eq_true rfl, Nat.le_of_ble_eq_true rfl, Nat.le_of_ble_eq_true rfl, Nat.le_of_ble_eq_true rfl, m_Mod_undo_no hm hE x c, fun r' h'' hq => ?_⟩
    exact ⟨hq.1, n, lab, S, ci, el, fr, to_, at_, oc, k, plab, T, cj, hv, hq.2⟩
theorem duo_slide (hR : Rl hC hM) (x : Int32) : Duo y_Mov_slide b_Mov_slide 2 .boolean y_Mod_slide b_Mod_slide 8 .boolean [.int x] hC hM := by
  obtain ⟨n, lab, S, ci, el, fr, to_, at_, oc, k, plab, T, cj, hv, hm⟩ := hR
  obtain ⟨hE, hP, hn⟩ := mv_ed hv
  have hval := ed_val hE
  have hFF := ff_le (by omega) (perm_D hE) (Nat.le_refl (4 * n))
  by_cases c : 0 ≤ x ∧ x < nI (FF (nxD fr to_ at_) (4 * n) (4 * n)).2
  · obtain ⟨j, hj, rfl⟩ := ge_nat (by omega) c
    obtain ⟨l, t, hF, ht⟩ := face_ex hn hE hj
    by_cases p3 : pat fr to_ (nxD fr to_ at_) l t = 3
    · obtain ⟨t3, htri⟩ := pat_3 p3
      refine ⟨_, _, Nat.le_of_ble_eq_true rfl, Nat.le_of_ble_eq_true rfl, Nat.le_of_ble_eq_true rfl, Nat.le_of_ble_eq_true rfl, mv_slide_3 hv j l t hj hF p3, fun r h' hq => ?_⟩
      obtain ⟨rfl, -, hq⟩ := hq
      have e3 : nxD fr to_ at_ (nxD fr to_ at_ (nxD fr to_ at_ l)) = l := by
        have := hF.2.2.1
        rw [t3] at this
        exact this
      obtain ⟨el', fr', to', at', oc', hv'⟩ := mv_chq hq (val_slide hval hE hF.1 rfl rfl e3 htri.1)
      refine ⟨_, rfl, mv_cls hv', _, _, Nat.le_of_ble_eq_true rfl, Nat.le_of_ble_eq_true rfl, Nat.le_of_ble_eq_true rfl, Nat.le_of_ble_eq_true rfl, m_Mod_slide_3 hm hE j l t hj hF p3 t3, fun r' h'' hq => ?_⟩
      exact ⟨hq.1, _, _, _, _, el', fr', to', at', oc', k, plab, T, cj, hv', hq.2⟩
    · refine ⟨_, _, Nat.le_of_ble_eq_true rfl, Nat.le_of_ble_eq_true rfl, Nat.le_of_ble_eq_true rfl, Nat.le_of_ble_eq_true rfl, mv_slide_0 hv j l t hj hF p3, fun r h' hq => ?_⟩
      obtain ⟨rfl, rfl⟩ := hq
      refine ⟨_, rfl, mv_cls hv, _, _, Nat.le_of_ble_eq_true rfl, Nat.le_of_ble_eq_true rfl, Nat.le_of_ble_eq_true rfl, Nat.le_of_ble_eq_true rfl, m_Mod_slide_0 hm hE j l t hj hF p3, fun r' h'' hq => ?_⟩
      exact ⟨hq.1, n, lab, S, ci, el, fr, to_, at_, oc, k, plab, T, cj, hv, hq.2⟩
  · refine ⟨_, _, Nat.le_of_ble_eq_true rfl, Nat.le_of_ble_eq_true rfl, Nat.le_of_ble_eq_true rfl, Nat.le_of_ble_eq_true rfl, mv_slide_no hv x c, fun r h' hq => ?_⟩
    obtain ⟨rfl, rfl⟩ := hq
    refine ⟨_, rfl, mv_cls hv, _, _, Nat.le_of_ble_eq_true rfl, Nat.le_of_ble_eq_true rfl, Nat.le_of_ble_eq_true rfl, Nat.le_of_ble_eq_true rfl, m_Mod_slide_no hm hE x c, fun r' h'' hq => ?_⟩
    exact ⟨hq.1, n, lab, S, ci, el, fr, to_, at_, oc, k, plab, T, cj, hv, hq.2⟩
theorem duo_twist (hR : Rl hC hM) (x sg : Int32) (ab : Bool) : Duo y_Mov_twist b_Mov_twist 4 .boolean y_Mod_twist b_Mod_twist 8 .boolean [.int x, .int sg, .int (bI ab)] hC hM := by
  obtain ⟨n, lab, S, ci, el, fr, to_, at_, oc, k, plab, T, cj, hv, hm⟩ := hR
  obtain ⟨hE, hP, hn⟩ := mv_ed hv
  have hval := ed_val hE
  by_cases c : ¬ (sg = nI 1 ∨ sg = -1) ∨ 20 ≤ n ∨ (x = 0 ∧ ¬ 0 < ci) ∨ (¬ x = 0 ∧ ∀ e, e < 2 * n → ¬ nI (el e) = x)
  · refine ⟨_, _, Nat.le_of_ble_eq_true rfl, Nat.le_of_ble_eq_true rfl, Nat.le_of_ble_eq_true rfl, Nat.le_of_ble_eq_true rfl, mv_twist_no hv x sg _ c, fun r h' hq => ?_⟩
    obtain ⟨rfl, rfl⟩ := hq
    refine ⟨_, rfl, mv_cls hv, _, _, Nat.le_of_ble_eq_true rfl, Nat.le_of_ble_eq_true rfl, Nat.le_of_ble_eq_true rfl, Nat.le_of_ble_eq_true rfl, m_Mod_twist_no hm hE x sg _ c, fun r' h'' hq => ?_⟩
    exact ⟨hq.1, n, lab, S, ci, el, fr, to_, at_, oc, k, plab, T, cj, hv, hq.2⟩
  · have hs : sg = nI 1 ∨ sg = -1 := Classical.byContradiction (fun z => c (Or.inl z))
    have h20 : n < 20 := Nat.not_le.mp (fun z => c (Or.inr (Or.inl z)))
    by_cases x0 : x = 0
    · subst x0
      have hc : 0 < ci := Classical.byContradiction (fun z => c (Or.inr (Or.inr (Or.inl ⟨rfl, z⟩))))
      refine ⟨_, _, Nat.le_of_ble_eq_true rfl, Nat.le_of_ble_eq_true rfl, Nat.le_of_ble_eq_true rfl, Nat.le_of_ble_eq_true rfl, mv_twist_c hv ab sg hs h20 hc, fun r h' hq => ?_⟩
      obtain ⟨rfl, hq⟩ := hq
      obtain ⟨el', fr', to', at', oc', hv'⟩ := mv_chq hq (val_twistCircle hval hE ab hs rfl rfl)
      refine ⟨_, rfl, mv_cls hv', _, _, Nat.le_of_ble_eq_true rfl, Nat.le_of_ble_eq_true rfl, Nat.le_of_ble_eq_true rfl, Nat.le_of_ble_eq_true rfl, m_Mod_twist_c hm hE ab sg hs h20 hc, fun r' h'' hq => ?_⟩
      exact ⟨hq.1, _, _, _, _, el', fr', to', at', oc', k, plab, T, cj, hv', hq.2⟩
    · obtain ⟨e, he, rfl⟩ : ∃ e, e < 2 * n ∧ nI (el e) = x := Classical.byContradiction (fun z => c (Or.inr (Or.inr (Or.inr ⟨x0, fun e he w => z ⟨e, he, w⟩⟩))))
      refine ⟨_, _, Nat.le_of_ble_eq_true rfl, Nat.le_of_ble_eq_true rfl, Nat.le_of_ble_eq_true rfl, Nat.le_of_ble_eq_true rfl, mv_twist_e hv ab sg hs h20 e he, fun r h' hq => ?_⟩
      obtain ⟨rfl, hq⟩ := hq
      obtain ⟨el', fr', to', at', oc', hv'⟩ := mv_chq hq (val_twistEdge hval hE he ab hs rfl rfl)
      refine ⟨_, rfl, mv_cls hv', _, _, Nat.le_of_ble_eq_true rfl, Nat.le_of_ble_eq_true rfl, Nat.le_of_ble_eq_true rfl, Nat.le_of_ble_eq_true rfl, m_Mod_twist_e hm hE ab sg hs h20 e he, fun r' h'' hq => ?_⟩
      exact ⟨hq.1, _, _, _, _, el', fr', to', at', oc', k, plab, T, cj, hv', hq.2⟩
theorem duo_simplify (hR : Rl hC hM) : Duo y_Mov_simplify b_Mov_simplify 4 .int y_Mod_simplify b_Mod_simplify 4 .int [] hC hM := by
  obtain ⟨n, lab, S, ci, el, fr, to_, at_, oc, k, plab, T, cj, hv, hm⟩ := hR
  refine ⟨_, _, Nat.le_of_ble_eq_true rfl, Nat.le_of_ble_eq_true rfl, Nat.le_of_ble_eq_true rfl, Nat.le_of_ble_eq_true rfl, mv_simplify hv, fun r h' hq => ?_⟩
  obtain ⟨g, n', lab', S', ci', rfl, hs, el', fr', to', at', oc', hv'⟩ := hq
  refine ⟨_, rfl, mv_cls hv', _, _, Nat.le_of_ble_eq_true rfl, Nat.le_of_ble_eq_true rfl, Nat.le_of_ble_eq_true rfl, Nat.le_of_ble_eq_true rfl, m_Mod_simplify hm hs, fun r' h'' hq => ?_⟩
  exact ⟨hq.1, _, _, _, _, el', fr', to', at', oc', k, plab, T, cj, hv', hq.2⟩
theorem duo_crossing (hR : Rl hC hM) (sg l0 l1 l2 l3 : Int32) : Duo y_Mov_crossing b_Mov_crossing 7 .int y_Mod_crossing b_Mod_crossing 7 .int [.int sg, .int l0, .int l1, .int l2, .int l3] hC hM := by
  obtain ⟨n, lab, S, ci, el, fr, to_, at_, oc, k, plab, T, cj, hv, hm⟩ := hR
  refine ⟨_, _, Nat.le_of_ble_eq_true rfl, Nat.le_of_ble_eq_true rfl, Nat.le_of_ble_eq_true rfl, Nat.le_of_ble_eq_true rfl, m_Mov_crossing (fun x hx => ⟨_, _, _, _, dia_dr hx⟩) hv sg l0 l1 l2 l3, fun r h' hq => ?_⟩
  rcases hq with ⟨c, rfl, hv'⟩ | ⟨c, rfl, a0, a1, a2, a3, rfl, rfl, rfl, rfl, hv'⟩
  · refine ⟨_, rfl, mv_cls hv', _, _, Nat.le_of_ble_eq_true rfl, Nat.le_of_ble_eq_true rfl, Nat.le_of_ble_eq_true rfl, Nat.le_of_ble_eq_true rfl, m_Mod_crossing_no hm sg l0 l1 l2 l3 c, fun r' h'' hq => ?_⟩
    obtain ⟨rfl, rfl⟩ := hq
    exact ⟨rfl, n, lab, S, ci, el, fr, to_, at_, oc, k, plab, T, cj, hv', hm⟩
  · have hb : k < 20 ∧ (1 ≤ a0 ∧ a0 ≤ 9999) ∧ (1 ≤ a1 ∧ a1 ≤ 9999) ∧ (1 ≤ a2 ∧ a2 ≤ 9999) ∧ (1 ≤ a3 ∧ a3 ≤ 9999) := by
      have hd : ∃ hX, Dr (k + 1) (ad4 plab k a0 a1 a2 a3) (upd T k sg) cj hX := by
        rcases hv' with ⟨hA, hB, hP, hR, e⟩ | ⟨hB, hA, hR, hP, e⟩
        · exact ⟨_, hR⟩
        · exact ⟨_, hR⟩
      obtain ⟨hX, L, m, PL, LB, FR, TO, AT, F, OF, RD, ST, pc, co, OC, CE, SL, -, hRw, -⟩ := hd
      have q0 := (hRw.2 (4 * k) (by omega)).2
      have q1 := (hRw.2 (4 * k + 1) (by omega)).2
      have q2 := (hRw.2 (4 * k + 2) (by omega)).2
      have q3 := (hRw.2 (4 * k + 3) (by omega)).2
      have e0 : ad4 plab k a0 a1 a2 a3 (4 * k) = a0 := by unfold ad4 va_up; rw [if_neg (by omega), if_neg (by omega), if_neg (by omega), if_pos rfl]
      have e1 : ad4 plab k a0 a1 a2 a3 (4 * k + 1) = a1 := by unfold ad4 va_up; rw [if_neg (by omega), if_neg (by omega), if_pos rfl]
      have e2 : ad4 plab k a0 a1 a2 a3 (4 * k + 2) = a2 := by unfold ad4 va_up; rw [if_neg (by omega), if_pos rfl]
      have e3 : ad4 plab k a0 a1 a2 a3 (4 * k + 3) = a3 := by unfold ad4 va_up; rw [if_pos rfl]
      rw [e0] at q0
      rw [e1] at q1
      rw [e2] at q2
      rw [e3] at q3
      exact ⟨by have := hRw.1; omega, q0, q1, q2, q3⟩
    refine ⟨_, rfl, mv_cls hv', _, _, Nat.le_of_ble_eq_true rfl, Nat.le_of_ble_eq_true rfl, Nat.le_of_ble_eq_true rfl, Nat.le_of_ble_eq_true rfl, m_Mod_crossing hm sg a0 a1 a2 a3 c.1 hb.2.1 hb.2.2.1 hb.2.2.2.1 hb.2.2.2.2 hb.1, fun r' h'' hq => ?_⟩
    exact ⟨hq.1, n, lab, S, ci, el, fr, to_, at_, oc, _, _, _, cj, hv', hq.2⟩
theorem duo_check (hR : Rl hC hM) (x : Int32) : Duo y_Mov_check b_Mov_check 4 .int y_Mod_check b_Mod_check 3 .int [.int x] hC hM := by
  obtain ⟨n, lab, S, ci, el, fr, to_, at_, oc, k, plab, T, cj, hv, hm⟩ := hR
  refine ⟨_, _, Nat.le_of_ble_eq_true rfl, Nat.le_of_ble_eq_true rfl, Nat.le_of_ble_eq_true rfl, Nat.le_of_ble_eq_true rfl, m_Mov_check (fun x hx => ⟨_, _, _, _, dia_dr hx⟩) hv x, fun r h' hq => ?_⟩
  rcases hq with ⟨c, rfl, hv'⟩ | ⟨c, f, rfl, hf, q1, q2⟩
  · refine ⟨_, rfl, mv_cls hv', _, _, Nat.le_of_ble_eq_true rfl, Nat.le_of_ble_eq_true rfl, Nat.le_of_ble_eq_true rfl, Nat.le_of_ble_eq_true rfl, m_Mod_check_no hm x c, fun r' h'' hq => ?_⟩
    obtain ⟨rfl, rfl⟩ := hq
    exact ⟨rfl, n, lab, S, ci, el, fr, to_, at_, oc, k, plab, T, cj, hv', hm⟩
  · have hk : k ≤ 20 := by
      obtain ⟨wrong, pS, pL, oN, oC, S, L, oS, oL, labs, row, fresh, piece, closed, faces, comp, fof, sides, side, free, arnd, rfl, hR, hS, hG, hPR, hPS, hPG⟩ := hm
      exact hPR.1
    obtain ⟨hF, hf3⟩ := flt_fq hk hf
    by_cases f0 : f = 0
    · obtain ⟨el', fr', to', at', oc', n0, lab0, S0, ci0, hv'⟩ := q2 f0
      refine ⟨_, rfl, mv_cls hv', _, _, Nat.le_of_ble_eq_true rfl, Nat.le_of_ble_eq_true rfl, Nat.le_of_ble_eq_true rfl, Nat.le_of_ble_eq_true rfl, m_Mod_check hm hf3 hF x c, fun r' h'' hq => ?_⟩
      exact ⟨hq.1, _, _, _, _, el', fr', to', at', oc', 0, lab0, S0, ci0, hv', mdl_zero (hq.2.2 f0)⟩
    · have hv' := q1 f0
      refine ⟨_, rfl, mv_cls hv', _, _, Nat.le_of_ble_eq_true rfl, Nat.le_of_ble_eq_true rfl, Nat.le_of_ble_eq_true rfl, Nat.le_of_ble_eq_true rfl, m_Mod_check hm hf3 hF x c, fun r' h'' hq => ?_⟩
      exact ⟨hq.1, n, lab, S, ci, el, fr, to_, at_, oc, 0, plab, T, cj, hv', hq.2.1 f0⟩
theorem duo_push (hR : Rl hC hM) (x y : Int32) (gx gy ov : Bool) : Duo y_Mov_push b_Mov_push 8 .boolean y_Mod_push b_Mod_push 11 .boolean [.int x, .int (bI gx), .int y, .int (bI gy), .int (bI ov)] hC hM := by
  obtain ⟨n, lab, S, ci, el, fr, to_, at_, oc, k, plab, T, cj, hv, hm⟩ := hR
  obtain ⟨hE, hP, hn⟩ := mv_ed hv
  have hval := ed_val hE
  cases gx <;> cases gy <;> cases ov
  · refine ⟨_, _, Nat.le_of_ble_eq_true rfl, Nat.le_of_ble_eq_true rfl, Nat.le_of_ble_eq_true rfl, Nat.le_of_ble_eq_true rfl, mv_push_00 hv x y false _ _ _ _ rfl rfl rfl rfl, fun r h' hq => ?_⟩
    rcases hq with ⟨rfl, rfl, hno⟩ | ⟨e, f, q1, rfl, hq⟩
    · refine ⟨_, rfl, mv_cls hv, _, _, Nat.le_of_ble_eq_true rfl, Nat.le_of_ble_eq_true rfl, Nat.le_of_ble_eq_true rfl, Nat.le_of_ble_eq_true rfl, m_Mod_push_000 hm hE hP x y _ _ _ _ rfl rfl rfl rfl, fun r' h'' hq => ?_⟩
      rcases hq with ⟨rfl, hq, -⟩ | ⟨e, f, p1, -⟩
      · exact ⟨rfl, n, lab, S, ci, el, fr, to_, at_, oc, k, plab, T, cj, hv, hq⟩
      · exact absurd p1 (hno e f)
    · obtain ⟨el', fr', to', at', oc', hv'⟩ := mv_chq hq (val_push hval hE q1.1 q1.2.1 q1.2.2.2.2.1 false true true rfl rfl rfl rfl)
      refine ⟨_, rfl, mv_cls hv', _, _, Nat.le_of_ble_eq_true rfl, Nat.le_of_ble_eq_true rfl, Nat.le_of_ble_eq_true rfl, Nat.le_of_ble_eq_true rfl, m_Mod_push_000 hm hE hP x y _ _ _ _ rfl rfl rfl rfl, fun r' h'' hq => ?_⟩
      rcases hq with ⟨-, -, hno⟩ | ⟨e', f', p1, rfl, hq2⟩
      · exact absurd q1 (hno e f)
      · have d1 : e' = e := el_uq hm hE p1.1 q1.1 (p1.2.2.1.symm.trans q1.2.2.1)
        have d2 : f' = f := el_uq hm hE p1.2.1 q1.2.1 (p1.2.2.2.1.symm.trans q1.2.2.2.1)
        subst d1
        subst d2
        exact ⟨rfl, _, _, _, _, el', fr', to', at', oc', k, plab, T, cj, hv', hq2⟩
  · refine ⟨_, _, Nat.le_of_ble_eq_true rfl, Nat.le_of_ble_eq_true rfl, Nat.le_of_ble_eq_true rfl, Nat.le_of_ble_eq_true rfl, mv_push_00 hv x y true _ _ _ _ rfl rfl rfl rfl, fun r h' hq => ?_⟩
    rcases hq with ⟨rfl, rfl, hno⟩ | ⟨e, f, q1, rfl, hq⟩
    · refine ⟨_, rfl, mv_cls hv, _, _, Nat.le_of_ble_eq_true rfl, Nat.le_of_ble_eq_true rfl, Nat.le_of_ble_eq_true rfl, Nat.le_of_ble_eq_true rfl, m_Mod_push_001 hm hE hP x y _ _ _ _ rfl rfl rfl rfl, fun r' h'' hq => ?_⟩
      rcases hq with ⟨rfl, hq, -⟩ | ⟨e, f, p1, -⟩
      · exact ⟨rfl, n, lab, S, ci, el, fr, to_, at_, oc, k, plab, T, cj, hv, hq⟩
      · exact absurd p1 (hno e f)
    · obtain ⟨el', fr', to', at', oc', hv'⟩ := mv_chq hq (val_push hval hE q1.1 q1.2.1 q1.2.2.2.2.1 true true true rfl rfl rfl rfl)
      refine ⟨_, rfl, mv_cls hv', _, _, Nat.le_of_ble_eq_true rfl, Nat.le_of_ble_eq_true rfl, Nat.le_of_ble_eq_true rfl, Nat.le_of_ble_eq_true rfl, m_Mod_push_001 hm hE hP x y _ _ _ _ rfl rfl rfl rfl, fun r' h'' hq => ?_⟩
      rcases hq with ⟨-, -, hno⟩ | ⟨e', f', p1, rfl, hq2⟩
      · exact absurd q1 (hno e f)
      · have d1 : e' = e := el_uq hm hE p1.1 q1.1 (p1.2.2.1.symm.trans q1.2.2.1)
        have d2 : f' = f := el_uq hm hE p1.2.1 q1.2.1 (p1.2.2.2.1.symm.trans q1.2.2.2.1)
        subst d1
        subst d2
        exact ⟨rfl, _, _, _, _, el', fr', to', at', oc', k, plab, T, cj, hv', hq2⟩
  · refine ⟨_, _, Nat.le_of_ble_eq_true rfl, Nat.le_of_ble_eq_true rfl, Nat.le_of_ble_eq_true rfl, Nat.le_of_ble_eq_true rfl, mv_push_01 hv x y false _ _ _ _ rfl rfl rfl rfl, fun r h' hq => ?_⟩
    rcases hq with ⟨rfl, rfl, hno⟩ | ⟨e, f, q1, rfl, hq⟩
    · refine ⟨_, rfl, mv_cls hv, _, _, Nat.le_of_ble_eq_true rfl, Nat.le_of_ble_eq_true rfl, Nat.le_of_ble_eq_true rfl, Nat.le_of_ble_eq_true rfl, m_Mod_push_010 hm hE hP x y _ _ _ _ rfl rfl rfl rfl, fun r' h'' hq => ?_⟩
      rcases hq with ⟨rfl, hq, -⟩ | ⟨e, f, p1, -⟩
      · exact ⟨rfl, n, lab, S, ci, el, fr, to_, at_, oc, k, plab, T, cj, hv, hq⟩
      · exact absurd p1 (hno e f)
    · obtain ⟨el', fr', to', at', oc', hv'⟩ := mv_chq hq (val_push hval hE q1.1 q1.2.1 q1.2.2.2.2.1 false true false rfl rfl rfl rfl)
      refine ⟨_, rfl, mv_cls hv', _, _, Nat.le_of_ble_eq_true rfl, Nat.le_of_ble_eq_true rfl, Nat.le_of_ble_eq_true rfl, Nat.le_of_ble_eq_true rfl, m_Mod_push_010 hm hE hP x y _ _ _ _ rfl rfl rfl rfl, fun r' h'' hq => ?_⟩
      rcases hq with ⟨-, -, hno⟩ | ⟨e', f', p1, rfl, hq2⟩
      · exact absurd q1 (hno e f)
      · have d1 : e' = e := el_uq hm hE p1.1 q1.1 (p1.2.2.1.symm.trans q1.2.2.1)
        have d2 : f' = f := el_uq hm hE p1.2.1 q1.2.1 (p1.2.2.2.1.symm.trans q1.2.2.2.1)
        subst d1
        subst d2
        exact ⟨rfl, _, _, _, _, el', fr', to', at', oc', k, plab, T, cj, hv', hq2⟩
  · refine ⟨_, _, Nat.le_of_ble_eq_true rfl, Nat.le_of_ble_eq_true rfl, Nat.le_of_ble_eq_true rfl, Nat.le_of_ble_eq_true rfl, mv_push_01 hv x y true _ _ _ _ rfl rfl rfl rfl, fun r h' hq => ?_⟩
    rcases hq with ⟨rfl, rfl, hno⟩ | ⟨e, f, q1, rfl, hq⟩
    · refine ⟨_, rfl, mv_cls hv, _, _, Nat.le_of_ble_eq_true rfl, Nat.le_of_ble_eq_true rfl, Nat.le_of_ble_eq_true rfl, Nat.le_of_ble_eq_true rfl, m_Mod_push_011 hm hE hP x y _ _ _ _ rfl rfl rfl rfl, fun r' h'' hq => ?_⟩
      rcases hq with ⟨rfl, hq, -⟩ | ⟨e, f, p1, -⟩
      · exact ⟨rfl, n, lab, S, ci, el, fr, to_, at_, oc, k, plab, T, cj, hv, hq⟩
      · exact absurd p1 (hno e f)
    · obtain ⟨el', fr', to', at', oc', hv'⟩ := mv_chq hq (val_push hval hE q1.1 q1.2.1 q1.2.2.2.2.1 true true false rfl rfl rfl rfl)
      refine ⟨_, rfl, mv_cls hv', _, _, Nat.le_of_ble_eq_true rfl, Nat.le_of_ble_eq_true rfl, Nat.le_of_ble_eq_true rfl, Nat.le_of_ble_eq_true rfl, m_Mod_push_011 hm hE hP x y _ _ _ _ rfl rfl rfl rfl, fun r' h'' hq => ?_⟩
      rcases hq with ⟨-, -, hno⟩ | ⟨e', f', p1, rfl, hq2⟩
      · exact absurd q1 (hno e f)
      · have d1 : e' = e := el_uq hm hE p1.1 q1.1 (p1.2.2.1.symm.trans q1.2.2.1)
        have d2 : f' = f := el_uq hm hE p1.2.1 q1.2.1 (p1.2.2.2.1.symm.trans q1.2.2.2.1)
        subst d1
        subst d2
        exact ⟨rfl, _, _, _, _, el', fr', to', at', oc', k, plab, T, cj, hv', hq2⟩
  · refine ⟨_, _, Nat.le_of_ble_eq_true rfl, Nat.le_of_ble_eq_true rfl, Nat.le_of_ble_eq_true rfl, Nat.le_of_ble_eq_true rfl, mv_push_10 hv x y false _ _ _ _ rfl rfl rfl rfl, fun r h' hq => ?_⟩
    rcases hq with ⟨rfl, rfl, hno⟩ | ⟨e, f, q1, rfl, hq⟩
    · refine ⟨_, rfl, mv_cls hv, _, _, Nat.le_of_ble_eq_true rfl, Nat.le_of_ble_eq_true rfl, Nat.le_of_ble_eq_true rfl, Nat.le_of_ble_eq_true rfl, m_Mod_push_100 hm hE hP x y _ _ _ _ rfl rfl rfl rfl, fun r' h'' hq => ?_⟩
      rcases hq with ⟨rfl, hq, -⟩ | ⟨e, f, p1, -⟩
      · exact ⟨rfl, n, lab, S, ci, el, fr, to_, at_, oc, k, plab, T, cj, hv, hq⟩
      · exact absurd p1 (hno e f)
    · obtain ⟨el', fr', to', at', oc', hv'⟩ := mv_chq hq (val_push hval hE q1.1 q1.2.1 q1.2.2.2.2.1 false false true rfl rfl rfl rfl)
      refine ⟨_, rfl, mv_cls hv', _, _, Nat.le_of_ble_eq_true rfl, Nat.le_of_ble_eq_true rfl, Nat.le_of_ble_eq_true rfl, Nat.le_of_ble_eq_true rfl, m_Mod_push_100 hm hE hP x y _ _ _ _ rfl rfl rfl rfl, fun r' h'' hq => ?_⟩
      rcases hq with ⟨-, -, hno⟩ | ⟨e', f', p1, rfl, hq2⟩
      · exact absurd q1 (hno e f)
      · have d1 : e' = e := el_uq hm hE p1.1 q1.1 (p1.2.2.1.symm.trans q1.2.2.1)
        have d2 : f' = f := el_uq hm hE p1.2.1 q1.2.1 (p1.2.2.2.1.symm.trans q1.2.2.2.1)
        subst d1
        subst d2
        exact ⟨rfl, _, _, _, _, el', fr', to', at', oc', k, plab, T, cj, hv', hq2⟩
  · refine ⟨_, _, Nat.le_of_ble_eq_true rfl, Nat.le_of_ble_eq_true rfl, Nat.le_of_ble_eq_true rfl, Nat.le_of_ble_eq_true rfl, mv_push_10 hv x y true _ _ _ _ rfl rfl rfl rfl, fun r h' hq => ?_⟩
    rcases hq with ⟨rfl, rfl, hno⟩ | ⟨e, f, q1, rfl, hq⟩
    · refine ⟨_, rfl, mv_cls hv, _, _, Nat.le_of_ble_eq_true rfl, Nat.le_of_ble_eq_true rfl, Nat.le_of_ble_eq_true rfl, Nat.le_of_ble_eq_true rfl, m_Mod_push_101 hm hE hP x y _ _ _ _ rfl rfl rfl rfl, fun r' h'' hq => ?_⟩
      rcases hq with ⟨rfl, hq, -⟩ | ⟨e, f, p1, -⟩
      · exact ⟨rfl, n, lab, S, ci, el, fr, to_, at_, oc, k, plab, T, cj, hv, hq⟩
      · exact absurd p1 (hno e f)
    · obtain ⟨el', fr', to', at', oc', hv'⟩ := mv_chq hq (val_push hval hE q1.1 q1.2.1 q1.2.2.2.2.1 true false true rfl rfl rfl rfl)
      refine ⟨_, rfl, mv_cls hv', _, _, Nat.le_of_ble_eq_true rfl, Nat.le_of_ble_eq_true rfl, Nat.le_of_ble_eq_true rfl, Nat.le_of_ble_eq_true rfl, m_Mod_push_101 hm hE hP x y _ _ _ _ rfl rfl rfl rfl, fun r' h'' hq => ?_⟩
      rcases hq with ⟨-, -, hno⟩ | ⟨e', f', p1, rfl, hq2⟩
      · exact absurd q1 (hno e f)
      · have d1 : e' = e := el_uq hm hE p1.1 q1.1 (p1.2.2.1.symm.trans q1.2.2.1)
        have d2 : f' = f := el_uq hm hE p1.2.1 q1.2.1 (p1.2.2.2.1.symm.trans q1.2.2.2.1)
        subst d1
        subst d2
        exact ⟨rfl, _, _, _, _, el', fr', to', at', oc', k, plab, T, cj, hv', hq2⟩
  · refine ⟨_, _, Nat.le_of_ble_eq_true rfl, Nat.le_of_ble_eq_true rfl, Nat.le_of_ble_eq_true rfl, Nat.le_of_ble_eq_true rfl, mv_push_11 hv x y false _ _ _ _ rfl rfl rfl rfl, fun r h' hq => ?_⟩
    rcases hq with ⟨rfl, rfl, hno⟩ | ⟨e, f, q1, rfl, hq⟩
    · refine ⟨_, rfl, mv_cls hv, _, _, Nat.le_of_ble_eq_true rfl, Nat.le_of_ble_eq_true rfl, Nat.le_of_ble_eq_true rfl, Nat.le_of_ble_eq_true rfl, m_Mod_push_110 hm hE hP x y _ _ _ _ rfl rfl rfl rfl, fun r' h'' hq => ?_⟩
      rcases hq with ⟨rfl, hq, -⟩ | ⟨e, f, p1, -⟩
      · exact ⟨rfl, n, lab, S, ci, el, fr, to_, at_, oc, k, plab, T, cj, hv, hq⟩
      · exact absurd p1 (hno e f)
    · obtain ⟨el', fr', to', at', oc', hv'⟩ := mv_chq hq (val_push hval hE q1.1 q1.2.1 q1.2.2.2.2.1 false false false rfl rfl rfl rfl)
      refine ⟨_, rfl, mv_cls hv', _, _, Nat.le_of_ble_eq_true rfl, Nat.le_of_ble_eq_true rfl, Nat.le_of_ble_eq_true rfl, Nat.le_of_ble_eq_true rfl, m_Mod_push_110 hm hE hP x y _ _ _ _ rfl rfl rfl rfl, fun r' h'' hq => ?_⟩
      rcases hq with ⟨-, -, hno⟩ | ⟨e', f', p1, rfl, hq2⟩
      · exact absurd q1 (hno e f)
      · have d1 : e' = e := el_uq hm hE p1.1 q1.1 (p1.2.2.1.symm.trans q1.2.2.1)
        have d2 : f' = f := el_uq hm hE p1.2.1 q1.2.1 (p1.2.2.2.1.symm.trans q1.2.2.2.1)
        subst d1
        subst d2
        exact ⟨rfl, _, _, _, _, el', fr', to', at', oc', k, plab, T, cj, hv', hq2⟩
  · refine ⟨_, _, Nat.le_of_ble_eq_true rfl, Nat.le_of_ble_eq_true rfl, Nat.le_of_ble_eq_true rfl, Nat.le_of_ble_eq_true rfl, mv_push_11 hv x y true _ _ _ _ rfl rfl rfl rfl, fun r h' hq => ?_⟩
    rcases hq with ⟨rfl, rfl, hno⟩ | ⟨e, f, q1, rfl, hq⟩
    · refine ⟨_, rfl, mv_cls hv, _, _, Nat.le_of_ble_eq_true rfl, Nat.le_of_ble_eq_true rfl, Nat.le_of_ble_eq_true rfl, Nat.le_of_ble_eq_true rfl, m_Mod_push_111 hm hE hP x y _ _ _ _ rfl rfl rfl rfl, fun r' h'' hq => ?_⟩
      rcases hq with ⟨rfl, hq, -⟩ | ⟨e, f, p1, -⟩
      · exact ⟨rfl, n, lab, S, ci, el, fr, to_, at_, oc, k, plab, T, cj, hv, hq⟩
      · exact absurd p1 (hno e f)
    · obtain ⟨el', fr', to', at', oc', hv'⟩ := mv_chq hq (val_push hval hE q1.1 q1.2.1 q1.2.2.2.2.1 true false false rfl rfl rfl rfl)
      refine ⟨_, rfl, mv_cls hv', _, _, Nat.le_of_ble_eq_true rfl, Nat.le_of_ble_eq_true rfl, Nat.le_of_ble_eq_true rfl, Nat.le_of_ble_eq_true rfl, m_Mod_push_111 hm hE hP x y _ _ _ _ rfl rfl rfl rfl, fun r' h'' hq => ?_⟩
      rcases hq with ⟨-, -, hno⟩ | ⟨e', f', p1, rfl, hq2⟩
      · exact absurd q1 (hno e f)
      · have d1 : e' = e := el_uq hm hE p1.1 q1.1 (p1.2.2.1.symm.trans q1.2.2.1)
        have d2 : f' = f := el_uq hm hE p1.2.1 q1.2.1 (p1.2.2.2.1.symm.trans q1.2.2.2.1)
        subst d1
        subst d2
        exact ⟨rfl, _, _, _, _, el', fr', to', at', oc', k, plab, T, cj, hv', hq2⟩
end
