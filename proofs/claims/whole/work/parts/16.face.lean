/-! the class's own methods -/
def x_I (ns : Nat) (kk : Nat → Nat) (σ : g_S → Nat → Int32) : Prop := (0 ≤ (σ (1, 0, 0) 2).toInt ∧ (σ (1, 0, 0) 2).toInt ≤ 100) ∧ (0 ≤ (σ (2, 0, 0) 4).toInt ∧ (σ (2, 0, 0) 4).toInt ≤ 40) ∧ ((σ (0, 0, 0) 3).toInt = (ns : Int) ∧ ns ≤ 8) ∧ (∀ i, i < ns → kk i ≤ 5) ∧ (∀ i, i < ns → σ (11, i, 0) 4 = 0 ∨ σ (11, i, 0) 4 = 1) ∧ (∀ i, i < ns → ∀ j, j < kk i → σ (18, i, j) 2 = 0 ∨ σ (18, i, j) 2 = 1) ∧ (∀ i, i < ns → ∀ j, j < kk i → 0 ≤ (σ (18, i, j) 1).toInt ∧ (σ (18, i, j) 1).toInt ≤ 100) ∧ (∀ i, i < ns → 0 ≤ (σ (13, i, 0) 5).toInt ∧ (σ (13, i, 0) 5).toInt ≤ (σ (13, i, 0) 4).toInt ∧ (σ (13, i, 0) 4).toInt ≤ 100) ∧ (∀ i, i < ns → 0 ≤ (σ (17, i, 0) 2).toInt ∧ (σ (17, i, 0) 2).toInt ≤ 20)
theorem x_ord_row {σ : g_S → Nat → Int32} {i j : Nat} {x down : Int32} {y : g_S} (hy : y ≠ (19, i, j)) : x_ord σ i j x down y = σ y := x_ordGo_row i j x down hy _ _ _
def x_qsR (σ : g_S → Nat → Int32) (k a b d : Int32) : Int32 := if k.toInt = 0 then x_rngR σ a b b else if k.toInt = 1 then x_rngR σ a b d else x_pairR σ k a b
def x_qsM (σ : g_S → Nat → Int32) (k a b d : Int32) : g_S → Nat → Int32 := if k.toInt = 0 then x_rngM σ a b b else if k.toInt = 1 then x_rngM σ a b d else x_pairM σ k a b
def x_srchGo (i j : Nat) (q : Int32) : Nat → Nat → (g_S → Nat → Int32) → (g_S → Nat → Int32)
  | 0, _, σ => σ
  | n + 1, r, σ => x_srchGo i j q n (r + 1) (if x_findsP σ q (nI r) then x_rsAdd σ i j (nI r) else σ)
theorem x_srchGo_s (i j : Nat) (q : Int32) (n r : Nat) (σ : g_S → Nat → Int32) : x_srchGo i j q (n + 1) r σ = x_srchGo i j q n (r + 1) (if x_findsP σ q (nI r) then x_rsAdd σ i j (nI r) else σ) := rfl
def x_srI (N i j : Nat) (σ : g_S → Nat → Int32) : Prop := (σ (1, 0, 0) 2).toInt = (N : Int) ∧ (σ (2, 0, 0) 4).toInt ≤ 40 ∧ 0 ≤ (σ (18, i, j) 1).toInt
theorem x_srI_add {N i j : Nat} {σ : g_S → Nat → Int32} {r : Int32} (h : x_srI N i j σ) : x_srI N i j (x_rsAdd σ i j r) := by
  obtain ⟨h1, h2, h3⟩ := h
  unfold x_rsAdd
  split
  · exact ⟨h1, h2, h3⟩
  · have z1 : (1 : Int32).toInt = 1 := rfl
    refine ⟨by simpa [g_up_at] using h1, by simpa [g_up_at] using h2, ?_⟩
    rw [g_up_same, g_addI (by omega) (by omega)]
    omega
def x_srch (σ : g_S → Nat → Int32) (i j : Nat) (q : Int32) : g_S → Nat → Int32 := x_srchGo i j q (σ (1, 0, 0) 2).toInt.toNat 0 (x_make σ i j)
def x_searchR (σ : g_S → Nat → Int32) (ns : Nat) (kk : Nat → Nat) (u q v : Int32) : Int32 := if (0 ≤ (u).toInt ∧ (u).toInt < (ns : Int)) ∧ ¬ (σ (11, (u).toNatClampNeg, 0) 4).toInt = 0 then (if 0 ≤ q.toInt ∧ q.toInt < (σ (2, 0, 0) 4).toInt then (if 0 ≤ (v).toInt ∧ (v).toInt < ((kk (u).toNatClampNeg : Nat) : Int) then (if (x_srch σ (u).toNatClampNeg (v).toNatClampNeg q (18, (u).toNatClampNeg, (v).toNatClampNeg) 1).toInt = 0 then -108 else x_srch σ (u).toNatClampNeg (v).toNatClampNeg q (18, (u).toNatClampNeg, (v).toNatClampNeg) 1) else -104) else -103) else -101
def x_searchM (σ : g_S → Nat → Int32) (ns : Nat) (kk : Nat → Nat) (u q v : Int32) : g_S → Nat → Int32 := if (0 ≤ (u).toInt ∧ (u).toInt < (ns : Int)) ∧ ¬ (σ (11, (u).toNatClampNeg, 0) 4).toInt = 0 then (if 0 ≤ q.toInt ∧ q.toInt < (σ (2, 0, 0) 4).toInt then (if 0 ≤ (v).toInt ∧ (v).toInt < ((kk (u).toNatClampNeg : Nat) : Int) then (if (x_srch σ (u).toNatClampNeg (v).toNatClampNeg q (18, (u).toNatClampNeg, (v).toNatClampNeg) 1).toInt = 0 then x_dgM (x_srch σ (u).toNatClampNeg (v).toNatClampNeg q) (kk (u).toNatClampNeg) (u).toNatClampNeg 108 else x_srch σ (u).toNatClampNeg (v).toNatClampNeg q) else x_dgM σ (kk (u).toNatClampNeg) (u).toNatClampNeg 104) else x_dgM σ (kk (u).toNatClampNeg) (u).toNatClampNeg 103) else σ
def x_sizeR (σ : g_S → Nat → Int32) (ns : Nat) (kk : Nat → Nat) (u v : Int32) : Int32 := if (0 ≤ (u).toInt ∧ (u).toInt < (ns : Int)) ∧ ¬ (σ (11, (u).toNatClampNeg, 0) 4).toInt = 0 then (if (0 ≤ (v).toInt ∧ (v).toInt < ((kk (u).toNatClampNeg : Nat) : Int)) ∧ ¬ (σ (18, (u).toNatClampNeg, (v).toNatClampNeg) 2).toInt = 0 then σ (18, (u).toNatClampNeg, (v).toNatClampNeg) 1 else -104) else -101
def x_presGo (i j : Nat) (fr : Int32) : Nat → Nat → (g_S → Nat → Int32) → (g_S → Nat → Int32)
  | 0, _, σ => σ
  | n + 1, k, σ => x_presGo i j fr n (k + 1) (x_preAdd σ i (x_rsAt σ i j (fr + nI k)) (x_bytesOf σ (x_rsAt σ i j (fr + nI k))))
theorem x_presGo_s (i j : Nat) (fr : Int32) (n k : Nat) (σ : g_S → Nat → Int32) : x_presGo i j fr (n + 1) k σ = x_presGo i j fr n (k + 1) (x_preAdd σ i (x_rsAt σ i j (fr + nI k)) (x_bytesOf σ (x_rsAt σ i j (fr + nI k)))) := rfl
def x_prI (i j : Nat) (σ : g_S → Nat → Int32) : Prop := (σ (1, 0, 0) 2).toInt ≤ 100 ∧ (σ (18, i, j) 1).toInt ≤ 100 ∧ 0 ≤ (σ (13, i, 0) 5).toInt ∧ (σ (13, i, 0) 5).toInt ≤ (σ (13, i, 0) 4).toInt
theorem x_preAdd_row {i : Nat} {σ : g_S → Nat → Int32} {r z : Int32} {y : g_S} (h3 : y.1 ≠ 13) (h4 : y.1 ≠ 14) (h5 : y.1 ≠ 15) (h6 : y.1 ≠ 16) : x_preAdd σ i r z y = σ y := by
  have e3 : y ≠ (13, i, 0) := fun q => h3 (by rw [q])
  have e4 : y ≠ (14, i, 0) := fun q => h4 (by rw [q])
  have e5 : y ≠ (15, i, 0) := fun q => h5 (by rw [q])
  have e6 : y ≠ (16, i, 0) := fun q => h6 (by rw [q])
  unfold x_preAdd
  split
  · rfl
  · split
    · unfold x_segPut x_segNew
      rw [g_up_row e3, g_up_row e4, g_up_row e6, g_up_row e3, g_up_row e6, g_up_row e5]
    · unfold x_segPut
      rw [g_up_row e3, g_up_row e4, g_up_row e6]
theorem x_prI_add {i j : Nat} {σ : g_S → Nat → Int32} {r z : Int32} (h : x_prI i j σ) : x_prI i j (x_preAdd σ i r z) := by
  obtain ⟨h1, h2, h3, h4⟩ := h
  have z1 : (1 : Int32).toInt = 1 := rfl
  refine ⟨by rw [x_preAdd_row (by simp) (by simp) (by simp) (by simp)]; exact h1, by rw [x_preAdd_row (by simp) (by simp) (by simp) (by simp)]; exact h2, ?_⟩
  unfold x_preAdd
  split
  · exact ⟨h3, h4⟩
  · have a1 : (σ (13, i, 0) 4 + 1).toInt = (σ (13, i, 0) 4).toInt + 1 := by rw [g_addI (by omega) (by omega)]; omega
    have a2 : (σ (13, i, 0) 5 + 1).toInt = (σ (13, i, 0) 5).toInt + 1 := by rw [g_addI (by omega) (by omega)]; omega
    split
    · have e5 : ∀ k : Nat, x_segPut (x_segNew σ i) i k (σ (13, i, 0) 4) r z (13, i, 0) 5 = σ (13, i, 0) 5 + 1 := fun k => by simp [x_segPut, x_segNew, g_up_at]
      have e4 : ∀ k : Nat, x_segPut (x_segNew σ i) i k (σ (13, i, 0) 4) r z (13, i, 0) 4 = σ (13, i, 0) 4 + 1 := fun k => by simp [x_segPut, g_up_at]
      rw [e5, e4]
      omega
    · have e5 : ∀ k : Nat, x_segPut σ i k (σ (13, i, 0) 4) r z (13, i, 0) 5 = σ (13, i, 0) 5 := fun k => by simp [x_segPut, g_up_at]
      have e4 : ∀ k : Nat, x_segPut σ i k (σ (13, i, 0) 4) r z (13, i, 0) 4 = σ (13, i, 0) 4 + 1 := fun k => by simp [x_segPut, g_up_at]
      rw [e5, e4]
      omega
def x_pres (σ : g_S → Nat → Int32) (i j : Nat) (fr nn : Int32) : g_S → Nat → Int32 := x_presGo i j fr nn.toInt.toNat 0 (x_clear σ i)
def x_presentR (σ : g_S → Nat → Int32) (ns : Nat) (kk : Nat → Nat) (u v fr nn : Int32) : Int32 := if (0 ≤ (u).toInt ∧ (u).toInt < (ns : Int)) ∧ ¬ (σ (11, (u).toNatClampNeg, 0) 4).toInt = 0 then (if (0 ≤ (v).toInt ∧ (v).toInt < ((kk (u).toNatClampNeg : Nat) : Int)) ∧ ¬ (σ (18, (u).toNatClampNeg, (v).toNatClampNeg) 2).toInt = 0 then (if 1 ≤ nn.toInt then (if fr.toInt < 0 ∨ (σ (18, (u).toNatClampNeg, (v).toNatClampNeg) 1).toInt - nn.toInt < fr.toInt then -105 else x_pres σ (u).toNatClampNeg (v).toNatClampNeg fr nn (13, (u).toNatClampNeg, 0) 5) else -107) else -104) else -101
def x_presentM (σ : g_S → Nat → Int32) (ns : Nat) (kk : Nat → Nat) (u v fr nn : Int32) : g_S → Nat → Int32 := if (0 ≤ (u).toInt ∧ (u).toInt < (ns : Int)) ∧ ¬ (σ (11, (u).toNatClampNeg, 0) 4).toInt = 0 then (if (0 ≤ (v).toInt ∧ (v).toInt < ((kk (u).toNatClampNeg : Nat) : Int)) ∧ ¬ (σ (18, (u).toNatClampNeg, (v).toNatClampNeg) 2).toInt = 0 then (if 1 ≤ nn.toInt then (if fr.toInt < 0 ∨ (σ (18, (u).toNatClampNeg, (v).toNatClampNeg) 1).toInt - nn.toInt < fr.toInt then x_dgM σ (kk (u).toNatClampNeg) (u).toNatClampNeg 105 else x_pres σ (u).toNatClampNeg (v).toNatClampNeg fr nn) else x_dgM σ (kk (u).toNatClampNeg) (u).toNatClampNeg 107) else x_dgM σ (kk (u).toNatClampNeg) (u).toNatClampNeg 104) else σ
def x_segmentR (σ : g_S → Nat → Int32) (ns : Nat) (u p w : Int32) : Int32 := if 0 ≤ (u).toInt ∧ (u).toInt < (ns : Int) then x_tellSeg σ (u).toNatClampNeg p w else -1
def x_atR (σ : g_S → Nat → Int32) (ns : Nat) (u p : Int32) : Int32 := if 0 ≤ (u).toInt ∧ (u).toInt < (ns : Int) then x_preAt σ (u).toNatClampNeg p else -1
def x_sortR (σ : g_S → Nat → Int32) (ns : Nat) (kk : Nat → Nat) (u v x down : Int32) : Int32 := if (0 ≤ (u).toInt ∧ (u).toInt < (ns : Int)) ∧ ¬ (σ (11, (u).toNatClampNeg, 0) 4).toInt = 0 then (if ¬ (σ (11, (u).toNatClampNeg, 0) 0 &&& 1).toInt = 0 then (if (0 ≤ (v).toInt ∧ (v).toInt < ((kk (u).toNatClampNeg : Nat) : Int)) ∧ ¬ (σ (18, (u).toNatClampNeg, (v).toNatClampNeg) 2).toInt = 0 then (if 0 ≤ x.toInt ∧ x.toInt < 5 then x_cwt (x_ord σ (u).toNatClampNeg (v).toNatClampNeg x down) (u).toNatClampNeg (v).toNatClampNeg x else -106) else -104) else -102) else -101
def x_sortM (σ : g_S → Nat → Int32) (ns : Nat) (kk : Nat → Nat) (u v x down : Int32) : g_S → Nat → Int32 := if (0 ≤ (u).toInt ∧ (u).toInt < (ns : Int)) ∧ ¬ (σ (11, (u).toNatClampNeg, 0) 4).toInt = 0 then (if ¬ (σ (11, (u).toNatClampNeg, 0) 0 &&& 1).toInt = 0 then (if (0 ≤ (v).toInt ∧ (v).toInt < ((kk (u).toNatClampNeg : Nat) : Int)) ∧ ¬ (σ (18, (u).toNatClampNeg, (v).toNatClampNeg) 2).toInt = 0 then (if 0 ≤ x.toInt ∧ x.toInt < 5 then x_ord σ (u).toNatClampNeg (v).toNatClampNeg x down else x_dgM σ (kk (u).toNatClampNeg) (u).toNatClampNeg 106) else x_dgM σ (kk (u).toNatClampNeg) (u).toNatClampNeg 104) else x_dgM σ (kk (u).toNatClampNeg) (u).toNatClampNeg 102) else σ
def x_scP (t nn pl : Int32) : Prop := (0 ≤ t.toInt ∧ t.toInt ≤ 999) ∧ (1 ≤ nn.toInt ∧ nn.toInt ≤ 20) ∧ (0 ≤ pl.toInt ∧ pl.toInt ≤ 9)
def x_scanR (σ : g_S → Nat → Int32) (ns : Nat) (kk : Nat → Nat) (u x t nn pl : Int32) : Int32 := if (0 ≤ (u).toInt ∧ (u).toInt < (ns : Int)) ∧ ¬ (σ (11, (u).toNatClampNeg, 0) 4).toInt = 0 then (if ¬ (σ (11, (u).toNatClampNeg, 0) 0 &&& 2).toInt = 0 then (if 0 ≤ x.toInt ∧ x.toInt < 5 then (if (0 ≤ t.toInt ∧ t.toInt ≤ 999) ∧ (1 ≤ nn.toInt ∧ nn.toInt ≤ 20) ∧ (0 ≤ pl.toInt ∧ pl.toInt ≤ 9) then (if (x_least σ x 0).toInt = -1 then -108 else x_fillM σ (u).toNatClampNeg x (x_backGo σ x pl.toInt.toNat t) nn (17, (u).toNatClampNeg, 0) 2) else -107) else -106) else -102) else -101
def x_scanM (σ : g_S → Nat → Int32) (ns : Nat) (kk : Nat → Nat) (u x t nn pl : Int32) : g_S → Nat → Int32 := if (0 ≤ (u).toInt ∧ (u).toInt < (ns : Int)) ∧ ¬ (σ (11, (u).toNatClampNeg, 0) 4).toInt = 0 then (if ¬ (σ (11, (u).toNatClampNeg, 0) 0 &&& 2).toInt = 0 then (if 0 ≤ x.toInt ∧ x.toInt < 5 then (if (0 ≤ t.toInt ∧ t.toInt ≤ 999) ∧ (1 ≤ nn.toInt ∧ nn.toInt ≤ 20) ∧ (0 ≤ pl.toInt ∧ pl.toInt ≤ 9) then (if (x_least σ x 0).toInt = -1 then x_dgM σ (kk (u).toNatClampNeg) (u).toNatClampNeg 108 else x_fillM σ (u).toNatClampNeg x (x_backGo σ x pl.toInt.toNat t) nn) else x_dgM σ (kk (u).toNatClampNeg) (u).toNatClampNeg 107) else x_dgM σ (kk (u).toNatClampNeg) (u).toNatClampNeg 106) else x_dgM σ (kk (u).toNatClampNeg) (u).toNatClampNeg 102) else σ
def x_dropR (σ : g_S → Nat → Int32) (ns : Nat) (kk : Nat → Nat) (u v : Int32) : Int32 := if (0 ≤ (u).toInt ∧ (u).toInt < (ns : Int)) ∧ ¬ (σ (11, (u).toNatClampNeg, 0) 4).toInt = 0 then (if (0 ≤ (v).toInt ∧ (v).toInt < ((kk (u).toNatClampNeg : Nat) : Int)) ∧ ¬ (σ (18, (u).toNatClampNeg, (v).toNatClampNeg) 2).toInt = 0 then 1 else -104) else -101
def x_dropM (σ : g_S → Nat → Int32) (ns : Nat) (kk : Nat → Nat) (u v : Int32) : g_S → Nat → Int32 := if (0 ≤ (u).toInt ∧ (u).toInt < (ns : Int)) ∧ ¬ (σ (11, (u).toNatClampNeg, 0) 4).toInt = 0 then (if (0 ≤ (v).toInt ∧ (v).toInt < ((kk (u).toNatClampNeg : Nat) : Int)) ∧ ¬ (σ (18, (u).toNatClampNeg, (v).toNatClampNeg) 2).toInt = 0 then x_forget σ (u).toNatClampNeg (v).toNatClampNeg else x_dgM σ (kk (u).toNatClampNeg) (u).toNatClampNeg 104) else σ
def x_closeR (σ : g_S → Nat → Int32) (ns : Nat) (kk : Nat → Nat) (u : Int32) : Int32 := if (0 ≤ (u).toInt ∧ (u).toInt < (ns : Int)) ∧ ¬ (σ (11, (u).toNatClampNeg, 0) 4).toInt = 0 then x_setsGo σ (u).toNatClampNeg (kk (u).toNatClampNeg) 0 0 else -101
def x_closeM (σ : g_S → Nat → Int32) (ns : Nat) (kk : Nat → Nat) (u : Int32) : g_S → Nat → Int32 := if (0 ≤ (u).toInt ∧ (u).toInt < (ns : Int)) ∧ ¬ (σ (11, (u).toNatClampNeg, 0) 4).toInt = 0 then x_shut σ (kk (u).toNatClampNeg) (u).toNatClampNeg else σ
def x_stateR (σ : g_S → Nat → Int32) (ns : Nat) (kk : Nat → Nat) (u w : Int32) : Int32 := if (0 ≤ u.toInt ∧ u.toInt < 8) ∧ (0 ≤ w.toInt ∧ w.toInt ≤ 3) then (if 0 ≤ (u).toInt ∧ (u).toInt < (ns : Int) then x_sTell σ (kk (u).toNatClampNeg) (u).toNatClampNeg w else 0) else -1
set_option maxHeartbeats 4000000 in
set_option maxRecDepth 100000 in
theorem c_X6_record (l : Launch) (D : va_G) (cy : Nat → ClassId) (L : g_S → Nat) (ns : Nat) (kk : Nat → Nat) (σ : g_S → Nat → Int32) (z : Int32) (hI : x_I ns kk σ) : x_Met l D cy L ns kk yX6_record (.code yX6_record cX6_record 2 (some .int)) 1 σ [.ref (L (0, 0, 0)), .int (z)] (some (.int (x_addR σ z))) (x_addM σ z) := by
  refine g_Met.of (by decide) (Nat.le_of_ble_eq_true rfl) ?_
  intro pg e s m below meth c hx hb hr hlk hml hown hts hK hN H locs hG hS ls hl
  have hown : s.vm.findClass RX6 = some m.cls := hown
  have hl : lv_has ls 2 [(0, .ref (L (0, 0, 0))), (1, .int (z))] := hl
  obtain ⟨⟨h0, hn⟩, ⟨q0, q40⟩, ⟨hs, h8⟩, hkA, hz4, hzA, hcA, hpA, htA⟩ := hI
  refine lv_aload_n hx hb dX6_record_0 rfl (lv_at hl 0 rfl) ?_
  refine g_get (C := RX6) (T := TX6) (N := 4) (v := .ref (L (1, 0, 0))) hx hb hts inX6g hown hK hG (0, 0, 0) ⟨rfl, rfl⟩ (x_at_0 cy L ns kk (0) (0) (σ (0, 0, 0))) rfl 0 (by decide) fl_X6_10 rfl dX6_record_1 ?_
  refine lv_iload_n hx hb dX6_record_4 rfl (lv_at hl 1 rfl) ?_
  refine g_cont (va_runV (As := [.int (z)]) (rest := []) ⟨hx, hb, hml, hown, hts⟩ (c_X2_add l D cy L ns kk σ (z) h0 hn) (cwV 1 hts gV_X6_33 rfl rfl rfl (by decide +kernel) ⟨Nat.le_of_ble_eq_true rfl, Nat.le_of_ble_eq_true rfl⟩) (g_preV hK hN hG (x := (1, 0, 0)) ⟨rfl, rfl⟩ (q := (RX2, TX2, 3)) (x_at_1 cy L ns kk (0) (0) (σ (1, 0, 0))) rfl) rfl rfl hl.1 rfl (lv_room (Nat.le_of_ble_eq_true rfl)) dX6_record_5 ⟨Nat.zero_le _, Nat.zero_le _⟩) hS (fun H locs hG hS => ?_)
  refine W.eq (g2 := F0 m 8 ls [.int (x_addR σ (z))]) rfl ?_
  exact s_iret hx hb hr hlk hG hS dX6_record_8 rfl rfl
set_option maxHeartbeats 4000000 in
set_option maxRecDepth 100000 in
theorem c_X6_term (l : Launch) (D : va_G) (cy : Nat → ClassId) (L : g_S → Nat) (ns : Nat) (kk : Nat → Nat) (σ : g_S → Nat → Int32) (p x v : Int32) (hI : x_I ns kk σ) : x_Met l D cy L ns kk yX6_term (.code yX6_term cX6_term 4 (some .int)) 2 σ [.ref (L (0, 0, 0)), .int (p), .int (x), .int (v)] (some (.int (if (0 ≤ p.toInt ∧ p.toInt < (σ (1, 0, 0) 2).toInt) ∧ (0 ≤ x.toInt ∧ x.toInt < 5) ∧ (v.toInt = -1 ∨ (0 ≤ v.toInt ∧ v.toInt ≤ 999)) then 1 else -1))) (x_putM σ p x v) := by
  refine g_Met.of (by decide) (Nat.le_of_ble_eq_true rfl) ?_
  intro pg e s m below meth c hx hb hr hlk hml hown hts hK hN H locs hG hS ls hl
  have hown : s.vm.findClass RX6 = some m.cls := hown
  have hl : lv_has ls 4 [(0, .ref (L (0, 0, 0))), (1, .int (p)), (2, .int (x)), (3, .int (v))] := hl
  obtain ⟨⟨h0, hn⟩, ⟨q0, q40⟩, ⟨hs, h8⟩, hkA, hz4, hzA, hcA, hpA, htA⟩ := hI
  refine lv_aload_n hx hb dX6_term_0 rfl (lv_at hl 0 rfl) ?_
  refine g_get (C := RX6) (T := TX6) (N := 4) (v := .ref (L (1, 0, 0))) hx hb hts inX6g hown hK hG (0, 0, 0) ⟨rfl, rfl⟩ (x_at_0 cy L ns kk (0) (0) (σ (0, 0, 0))) rfl 0 (by decide) fl_X6_10 rfl dX6_term_1 ?_
  refine lv_iload_n hx hb dX6_term_4 rfl (lv_at hl 1 rfl) ?_
  refine lv_iload_n hx hb dX6_term_5 rfl (lv_at hl 2 rfl) ?_
  refine lv_iload_n hx hb dX6_term_6 rfl (lv_at hl 3 rfl) ?_
  refine g_cont (va_runV (As := [.int (p), .int (x), .int (v)]) (rest := []) ⟨hx, hb, hml, hown, hts⟩ (c_X2_putTerm l D cy L ns kk σ (p) (x) (v) h0 hn) (cwV 3 hts gV_X6_37 rfl rfl rfl (by decide +kernel) ⟨Nat.le_of_ble_eq_true rfl, Nat.le_of_ble_eq_true rfl⟩) (g_preV hK hN hG (x := (1, 0, 0)) ⟨rfl, rfl⟩ (q := (RX2, TX2, 3)) (x_at_1 cy L ns kk (0) (0) (σ (1, 0, 0))) rfl) rfl rfl hl.1 rfl (lv_room (Nat.le_of_ble_eq_true rfl)) dX6_term_7 ⟨Nat.zero_le _, Nat.zero_le _⟩) hS (fun H locs hG hS => ?_)
  refine W.eq (g2 := F0 m 10 ls [.int (g_b ((0 ≤ (p).toInt ∧ (p).toInt < (σ (1, 0, 0) 2).toInt) ∧ (0 ≤ (x).toInt ∧ (x).toInt < 5) ∧ ((v).toInt = -1 ∨ (0 ≤ (v).toInt ∧ (v).toInt ≤ 999))))]) rfl ?_
  refine kz_b_eq (tgt := 17) hx hb dX6_term_10 (by decide) (fun c_10_1 => ?_) (fun c_10_1 => ?_)
  · refine lv_iconst (v := (-1)) hx hb dX6_term_17 (by decide) ?_
    exact s_iret hx hb hr hlk hG hS dX6_term_18 (by rw [if_neg (by omega)]) rfl
  · refine lv_iconst (v := 1) hx hb dX6_term_13 (by decide) ?_
    refine lv_goto (tgt := 18) hx hb dX6_term_14 (by decide) ?_
    exact s_iret hx hb hr hlk hG hS dX6_term_18 (by rw [if_pos (by omega)]) rfl
set_option maxHeartbeats 4000000 in
set_option maxRecDepth 100000 in
theorem c_X6_question (l : Launch) (D : va_G) (cy : Nat → ClassId) (L : g_S → Nat) (ns : Nat) (kk : Nat → Nat) (σ : g_S → Nat → Int32) (k a b d : Int32) (hI : x_I ns kk σ) : x_Met l D cy L ns kk yX6_question (.code yX6_question cX6_question 5 (some .int)) 2 σ [.ref (L (0, 0, 0)), .int (k), .int (a), .int (b), .int (d)] (some (.int (x_qsR σ k a b d))) (x_qsM σ k a b d) := by
  refine g_Met.of (by decide) (Nat.le_of_ble_eq_true rfl) ?_
  intro pg e s m below meth c hx hb hr hlk hml hown hts hK hN H locs hG hS ls hl
  have hown : s.vm.findClass RX6 = some m.cls := hown
  have hl : lv_has ls 5 [(0, .ref (L (0, 0, 0))), (1, .int (k)), (2, .int (a)), (3, .int (b)), (4, .int (d))] := hl
  obtain ⟨⟨h0, hn⟩, ⟨q0, q40⟩, ⟨hs, h8⟩, hkA, hz4, hzA, hcA, hpA, htA⟩ := hI
  refine lv_iload_n hx hb dX6_question_0 rfl (lv_at hl 1 rfl) ?_
  refine kz_if_ne (X := (k).toInt) hx hb rfl dX6_question_1 (tgt := 15) (by decide) (fun c_1_1 => ?_) (fun c_1_1 => ?_)
  · refine lv_iload_n hx hb dX6_question_15 rfl (lv_at hl 1 rfl) ?_
    refine lv_iconst (v := 1) hx hb dX6_question_16 (by decide) ?_
    refine kz_icmp_ne (X := (k).toInt) (Y := 1) hx hb rfl (by decide) dX6_question_17 (tgt := 32) (by decide) (fun c_17_2 => ?_) (fun c_17_2 => ?_)
    · refine lv_aload_n hx hb dX6_question_32 rfl (lv_at hl 0 rfl) ?_
      refine g_get (C := RX6) (T := TX6) (N := 4) (v := .ref (L (2, 0, 0))) hx hb hts inX6g hown hK hG (0, 0, 0) ⟨rfl, rfl⟩ (x_at_0 cy L ns kk (0) (0) (σ (0, 0, 0))) rfl 1 (by decide) fl_X6_19 rfl dX6_question_33 ?_
      refine lv_iload_n hx hb dX6_question_36 rfl (lv_at hl 1 rfl) ?_
      refine lv_iload_n hx hb dX6_question_37 rfl (lv_at hl 2 rfl) ?_
      refine lv_iload_n hx hb dX6_question_38 rfl (lv_at hl 3 rfl) ?_
      refine g_cont (va_runV (As := [.int (k), .int (a), .int (b)]) (rest := []) ⟨hx, hb, hml, hown, hts⟩ (c_X1_addPair l D cy L ns kk σ (k) (a) (b) q0) (cwV 3 hts gV_X6_45 rfl rfl rfl (by decide +kernel) ⟨Nat.le_of_ble_eq_true rfl, Nat.le_of_ble_eq_true rfl⟩) (g_preV hK hN hG (x := (2, 0, 0)) ⟨rfl, rfl⟩ (q := (RX1, TX1, 5)) (x_at_2 cy L ns kk (0) (0) (σ (2, 0, 0))) rfl) rfl rfl hl.1 rfl (lv_room (Nat.le_of_ble_eq_true rfl)) dX6_question_39 ⟨Nat.zero_le _, Nat.zero_le _⟩) hS (fun H locs hG hS => ?_)
      refine W.eq (g2 := F0 m 42 ls [.int (x_pairR σ (k) (a) (b))]) rfl ?_
      exact s_iret hx hb hr hlk hG hS dX6_question_42 (by unfold x_qsR; (repeat' split) <;> first | rfl | (exfalso; omega)) (by unfold x_qsM; (repeat' split) <;> first | rfl | (exfalso; omega))
    · refine lv_aload_n hx hb dX6_question_20 rfl (lv_at hl 0 rfl) ?_
      refine g_get (C := RX6) (T := TX6) (N := 4) (v := .ref (L (2, 0, 0))) hx hb hts inX6g hown hK hG (0, 0, 0) ⟨rfl, rfl⟩ (x_at_0 cy L ns kk (0) (0) (σ (0, 0, 0))) rfl 1 (by decide) fl_X6_19 rfl dX6_question_21 ?_
      refine lv_iload_n hx hb dX6_question_24 rfl (lv_at hl 2 rfl) ?_
      refine lv_iload_n hx hb dX6_question_25 rfl (lv_at hl 3 rfl) ?_
      refine lv_iload hx hb dX6_question_26 (lv_at hl 4 rfl) ?_
      refine g_cont (va_runV (As := [.int (a), .int (b), .int (d)]) (rest := []) ⟨hx, hb, hml, hown, hts⟩ (c_X1_addRange l D cy L ns kk σ (a) (b) (d) q0) (cwV 3 hts gV_X6_41 rfl rfl rfl (by decide +kernel) ⟨Nat.le_of_ble_eq_true rfl, Nat.le_of_ble_eq_true rfl⟩) (g_preV hK hN hG (x := (2, 0, 0)) ⟨rfl, rfl⟩ (q := (RX1, TX1, 5)) (x_at_2 cy L ns kk (0) (0) (σ (2, 0, 0))) rfl) rfl rfl hl.1 rfl (lv_room (Nat.le_of_ble_eq_true rfl)) dX6_question_28 ⟨Nat.zero_le _, Nat.zero_le _⟩) hS (fun H locs hG hS => ?_)
      refine W.eq (g2 := F0 m 31 ls [.int (x_rngR σ (a) (b) (d))]) rfl ?_
      exact s_iret hx hb hr hlk hG hS dX6_question_31 (by unfold x_qsR; (repeat' split) <;> first | rfl | (exfalso; omega)) (by unfold x_qsM; (repeat' split) <;> first | rfl | (exfalso; omega))
  · refine lv_aload_n hx hb dX6_question_4 rfl (lv_at hl 0 rfl) ?_
    refine g_get (C := RX6) (T := TX6) (N := 4) (v := .ref (L (2, 0, 0))) hx hb hts inX6g hown hK hG (0, 0, 0) ⟨rfl, rfl⟩ (x_at_0 cy L ns kk (0) (0) (σ (0, 0, 0))) rfl 1 (by decide) fl_X6_19 rfl dX6_question_5 ?_
    refine lv_iload_n hx hb dX6_question_8 rfl (lv_at hl 2 rfl) ?_
    refine lv_iload_n hx hb dX6_question_9 rfl (lv_at hl 3 rfl) ?_
    refine lv_iload_n hx hb dX6_question_10 rfl (lv_at hl 3 rfl) ?_
    refine g_cont (va_runV (As := [.int (a), .int (b), .int (b)]) (rest := []) ⟨hx, hb, hml, hown, hts⟩ (c_X1_addRange l D cy L ns kk σ (a) (b) (b) q0) (cwV 3 hts gV_X6_41 rfl rfl rfl (by decide +kernel) ⟨Nat.le_of_ble_eq_true rfl, Nat.le_of_ble_eq_true rfl⟩) (g_preV hK hN hG (x := (2, 0, 0)) ⟨rfl, rfl⟩ (q := (RX1, TX1, 5)) (x_at_2 cy L ns kk (0) (0) (σ (2, 0, 0))) rfl) rfl rfl hl.1 rfl (lv_room (Nat.le_of_ble_eq_true rfl)) dX6_question_11 ⟨Nat.zero_le _, Nat.zero_le _⟩) hS (fun H locs hG hS => ?_)
    refine W.eq (g2 := F0 m 14 ls [.int (x_rngR σ (a) (b) (b))]) rfl ?_
    exact s_iret hx hb hr hlk hG hS dX6_question_14 (by unfold x_qsR; (repeat' split) <;> first | rfl | (exfalso; omega)) (by unfold x_qsM; (repeat' split) <;> first | rfl | (exfalso; omega))
set_option maxHeartbeats 4000000 in
set_option maxRecDepth 100000 in
theorem lp_srch (l : Launch) (D : va_G) (cy : Nat → ClassId) (L : g_S → Nat) (ns : Nat) (kk : Nat → Nat) {pg : Program} {e : Env} {s : State} {m : MethodId} {args : Array Value} {below : List Frame} {meth : Method} {c : Code} {Q : State → Prop} (C0 : g_C pg s m meth c args cX6_search (some .int) 7 RX6 D (x_tys cy)) (i j : Nat) (hi : i < ns) (hj : j < kk i) (N : Nat) (hN9 : N ≤ 100) (q : Int32) :
    ∀ (n : Nat) (σ : g_S → Nat → Int32) (r : Nat) (H : Heap) (locs : List Loc) (ls : Array Slot), r + n = N → (x_srI N i j σ) → g_H D vwCl (x_dom ns kk) L (fun z => x_K cy L ns kk z (σ z)) H → va_S (g_A (x_dom ns kk) L) s.heap H locs → lv_has ls 7 [(6, .int (nI r)), (0, .ref (L (0, 0, 0))), (2, .int (q)), (4, .ref (L (11, i, 0))), (5, .ref (L (18, i, j)))] →
    (∀ (H : Heap) (locs : List Loc) (ls : Array Slot), g_H D vwCl (x_dom ns kk) L (fun z => x_K cy L ns kk z ((x_srchGo i j q n r σ) z)) H → va_S (g_A (x_dom ns kk) L) s.heap H locs → lv_has ls 7 [(4, .ref (L (11, i, 0))), (5, .ref (L (18, i, j)))] → W pg l e (g_R 5) s m args below meth c H locs 0 0 Q (F0 m 105 ls [])) →
    W pg l e (g_R 5) s m args below meth c H locs 0 0 Q (F0 m 63 ls []) := by
  obtain ⟨hx, hb, hr, hlk, hml, hown, hts, hK, hN⟩ := C0
  intro n
  induction n with
  | zero =>
    intro σ r H locs ls hv9 hy hG hS hl kk9
    obtain ⟨hc, q40, hr0⟩ := id hy
    have hz9 := g_nIT (show r < 2147483648 by omega)
    refine lv_iload hx hb dX6_search_63 (lv_at hl 0 rfl) ?_
    refine lv_aload_n hx hb dX6_search_65 rfl (lv_at hl 1 rfl) ?_
    refine g_get (C := RX6) (T := TX6) (N := 4) (v := .ref (L (1, 0, 0))) hx hb hts inX6g hown hK hG (0, 0, 0) ⟨rfl, rfl⟩ (x_at_0 cy L ns kk (0) (0) (σ (0, 0, 0))) rfl 0 (by decide) fl_X6_10 rfl dX6_search_66 ?_
    refine g_cont (va_runV (As := []) (rest := [.int (nI r)]) ⟨hx, hb, hml, hown, hts⟩ (c_X2_count l D cy L ns kk σ ) (cwV 0 hts gV_X6_71 rfl rfl rfl (by decide +kernel) ⟨Nat.le_of_ble_eq_true rfl, Nat.le_of_ble_eq_true rfl⟩) (g_preV hK hN hG (x := (1, 0, 0)) ⟨rfl, rfl⟩ (q := (RX2, TX2, 3)) (x_at_1 cy L ns kk (0) (0) (σ (1, 0, 0))) rfl) rfl rfl hl.1 rfl (lv_room (Nat.le_of_ble_eq_true rfl)) dX6_search_69 ⟨Nat.zero_le _, Nat.zero_le _⟩) hS (fun H locs hG hS => ?_)
    refine W.eq (g2 := F0 m 72 ls [.int (σ (1, 0, 0) 2), .int (nI r)]) rfl ?_
    refine kz_icmp_ge (X := ((r : Nat) : Int)) (Y := (σ (1, 0, 0) 2).toInt) hx hb (g_nIT (by omega)) rfl dX6_search_72 (tgt := 105) (by decide) (fun c_72_1 => ?_) (fun c_72_1 => ?_)
    · exact kk9 H locs ls hG hS (lv_sub hl [3, 4] rfl)
    · exact absurd c_72_1 (by omega)
  | succ n ih =>
    intro σ r H locs ls hv9 hy hG hS hl kk9
    obtain ⟨hc, q40, hr0⟩ := id hy
    have hz9 := g_nIT (show r < 2147483648 by omega)
    refine lv_iload hx hb dX6_search_63 (lv_at hl 0 rfl) ?_
    refine lv_aload_n hx hb dX6_search_65 rfl (lv_at hl 1 rfl) ?_
    refine g_get (C := RX6) (T := TX6) (N := 4) (v := .ref (L (1, 0, 0))) hx hb hts inX6g hown hK hG (0, 0, 0) ⟨rfl, rfl⟩ (x_at_0 cy L ns kk (0) (0) (σ (0, 0, 0))) rfl 0 (by decide) fl_X6_10 rfl dX6_search_66 ?_
    refine g_cont (va_runV (As := []) (rest := [.int (nI r)]) ⟨hx, hb, hml, hown, hts⟩ (c_X2_count l D cy L ns kk σ ) (cwV 0 hts gV_X6_71 rfl rfl rfl (by decide +kernel) ⟨Nat.le_of_ble_eq_true rfl, Nat.le_of_ble_eq_true rfl⟩) (g_preV hK hN hG (x := (1, 0, 0)) ⟨rfl, rfl⟩ (q := (RX2, TX2, 3)) (x_at_1 cy L ns kk (0) (0) (σ (1, 0, 0))) rfl) rfl rfl hl.1 rfl (lv_room (Nat.le_of_ble_eq_true rfl)) dX6_search_69 ⟨Nat.zero_le _, Nat.zero_le _⟩) hS (fun H locs hG hS => ?_)
    refine W.eq (g2 := F0 m 72 ls [.int (σ (1, 0, 0) 2), .int (nI r)]) rfl ?_
    refine kz_icmp_ge (X := ((r : Nat) : Int)) (Y := (σ (1, 0, 0) 2).toInt) hx hb (g_nIT (by omega)) rfl dX6_search_72 (tgt := 105) (by decide) (fun c_72_1 => ?_) (fun c_72_1 => ?_)
    · exact absurd c_72_1 (by omega)
    · refine lv_aload_n hx hb dX6_search_75 rfl (lv_at hl 1 rfl) ?_
      refine g_get (C := RX6) (T := TX6) (N := 4) (v := .ref (L (2, 0, 0))) hx hb hts inX6g hown hK hG (0, 0, 0) ⟨rfl, rfl⟩ (x_at_0 cy L ns kk (0) (0) (σ (0, 0, 0))) rfl 1 (by decide) fl_X6_19 rfl dX6_search_76 ?_
      refine lv_iload_n hx hb dX6_search_79 rfl (lv_at hl 2 rfl) ?_
      refine lv_aload_n hx hb dX6_search_80 rfl (lv_at hl 1 rfl) ?_
      refine g_get (C := RX6) (T := TX6) (N := 4) (v := .ref (L (1, 0, 0))) hx hb hts inX6g hown hK hG (0, 0, 0) ⟨rfl, rfl⟩ (x_at_0 cy L ns kk (0) (0) (σ (0, 0, 0))) rfl 0 (by decide) fl_X6_10 rfl dX6_search_81 ?_
      refine lv_iload hx hb dX6_search_84 (lv_at hl 0 rfl) ?_
      refine g_cont (va_runV (As := [.int (q), .ref (L (1, 0, 0)), .int (nI r)]) (rest := []) ⟨hx, hb, hml, hown, hts⟩ (c_X1_finds l D cy L ns kk σ (q) (nI r) (by omega) q40) (cwV 3 hts gV_X6_75 rfl rfl rfl (by decide +kernel) ⟨Nat.le_of_ble_eq_true rfl, Nat.le_of_ble_eq_true rfl⟩) (g_preV hK hN hG (x := (2, 0, 0)) ⟨rfl, rfl⟩ (q := (RX1, TX1, 5)) (x_at_2 cy L ns kk (0) (0) (σ (2, 0, 0))) rfl) rfl rfl hl.1 rfl (lv_room (Nat.le_of_ble_eq_true rfl)) dX6_search_86 ⟨Nat.zero_le _, Nat.zero_le _⟩) hS (fun H locs hG hS => ?_)
      refine W.eq (g2 := F0 m 89 ls [.int (g_b (x_findsP σ (q) (nI r)))]) rfl ?_
      refine kz_b_eq (tgt := 99) hx hb dX6_search_89 (by decide) (fun c_89_2 => ?_) (fun c_89_2 => ?_)
      · refine lv_iinc (v := nI (r + 1)) (lv' := [(6, .int (nI (r + 1))), (0, .ref (L (0, 0, 0))), (2, .int (q)), (4, .ref (L (11, i, 0))), (5, .ref (L (18, i, j)))]) hx hb dX6_search_99 hl (k := 0) rfl (nI_1 (r)) (by decide) rfl (fun ls hl => ?_)
        refine lv_goto (tgt := 63) hx hb dX6_search_102 (by decide) ?_
        have e90 : x_srchGo i j q (n + 1) r σ = x_srchGo i j q n (r + 1) σ := (by rw [x_srchGo_s]; first | (rw [if_pos (by assumption)]) | (rw [if_neg (by assumption)]))
        rw [e90] at kk9
        exact ih σ (r + 1) H locs ls (by omega) (by first | exact hy | exact x_srI_add hy) hG hS (lv_sub hl [0, 1, 2, 3, 4] rfl) kk9
      · refine lv_aload hx hb dX6_search_92 (lv_at hl 4 rfl) ?_
        refine lv_iload hx hb dX6_search_94 (lv_at hl 0 rfl) ?_
        refine g_cont (va_runV (As := [.int (nI r)]) (rest := []) ⟨hx, hb, hml, hown, hts⟩ (c_X3_add l D cy L ns kk σ (i) (j) hi hj (nI r) hr0) (cwV 1 hts gV_X6_79 rfl rfl rfl (by decide +kernel) ⟨Nat.le_of_ble_eq_true rfl, Nat.le_of_ble_eq_true rfl⟩) (g_preV hK hN hG (x := (18, i, j)) ⟨hi, hj⟩ (q := (RX3, TX3, 3)) (x_at_18 cy L ns kk (i) (j) (σ (18, i, j))) rfl) rfl rfl hl.1 rfl (lv_room (Nat.le_of_ble_eq_true rfl)) dX6_search_96 ⟨Nat.zero_le _, Nat.zero_le _⟩) hS (fun H locs hG hS => ?_)
        refine W.eq (g2 := F0 m 99 ls []) rfl ?_
        refine lv_iinc (v := nI (r + 1)) (lv' := [(6, .int (nI (r + 1))), (0, .ref (L (0, 0, 0))), (2, .int (q)), (4, .ref (L (11, i, 0))), (5, .ref (L (18, i, j)))]) hx hb dX6_search_99 hl (k := 0) rfl (nI_1 (r)) (by decide) rfl (fun ls hl => ?_)
        refine lv_goto (tgt := 63) hx hb dX6_search_102 (by decide) ?_
        have e90 : x_srchGo i j q (n + 1) r σ = x_srchGo i j q n (r + 1) (x_rsAdd σ (i) (j) (nI r)) := (by rw [x_srchGo_s]; first | (rw [if_pos (by assumption)]) | (rw [if_neg (by assumption)]))
        rw [e90] at kk9
        exact ih (x_rsAdd σ (i) (j) (nI r)) (r + 1) H locs ls (by omega) (by first | exact hy | exact x_srI_add hy) hG hS (lv_sub hl [0, 1, 2, 3, 4] rfl) kk9
set_option maxHeartbeats 4000000 in
set_option maxRecDepth 100000 in
theorem c_X6_search (l : Launch) (D : va_G) (cy : Nat → ClassId) (L : g_S → Nat) (ns : Nat) (kk : Nat → Nat) (σ : g_S → Nat → Int32) (u q v : Int32) (hI : x_I ns kk σ) : x_Met l D cy L ns kk yX6_search (.code yX6_search cX6_search 7 (some .int)) 5 σ [.ref (L (0, 0, 0)), .int (u), .int (q), .int (v)] (some (.int (x_searchR σ ns kk u q v))) (x_searchM σ ns kk u q v) := by
  refine g_Met.of (by decide) (Nat.le_of_ble_eq_true rfl) ?_
  intro pg e s m below meth c hx hb hr hlk hml hown hts hK hN H locs hG hS ls hl
  have hown : s.vm.findClass RX6 = some m.cls := hown
  have hl : lv_has ls 7 [(0, .ref (L (0, 0, 0))), (1, .int (u)), (2, .int (q)), (3, .int (v))] := hl
  obtain ⟨⟨h0, hn⟩, ⟨q0, q40⟩, ⟨hs, h8⟩, hkA, hz4, hzA, hcA, hpA, htA⟩ := hI
  refine lv_aload_n hx hb dX6_search_0 rfl (lv_at hl 0 rfl) ?_
  refine lv_iload_n hx hb dX6_search_1 rfl (lv_at hl 1 rfl) ?_
  refine g_cont (va_runV (As := [.int (u)]) (rest := []) ⟨hx, hb, hml, hown, hts⟩ (c_X6_openSession l D cy L ns kk σ (u) hs h8 hz4) (cwV 1 hts gV_X6_51 rfl rfl rfl (by decide +kernel) ⟨Nat.le_of_ble_eq_true rfl, Nat.le_of_ble_eq_true rfl⟩) (g_preV hK hN hG (x := (0, 0, 0)) ⟨rfl, rfl⟩ (q := (RX6, TX6, 4)) (x_at_0 cy L ns kk (0) (0) (σ (0, 0, 0))) rfl) rfl rfl hl.1 rfl (lv_room (Nat.le_of_ble_eq_true rfl)) dX6_search_2 ⟨Nat.zero_le _, Nat.zero_le _⟩) hS (fun H locs hG hS => ?_)
  refine W.eq (g2 := F0 m 5 ls [(if (0 ≤ (u).toInt ∧ (u).toInt < (ns : Int)) ∧ ¬ (σ (11, (u).toNatClampNeg, 0) 4).toInt = 0 then .ref (L (11, (u).toNatClampNeg, 0)) else .null)]) rfl ?_
  by_cases c_2_1 : (0 ≤ (u).toInt ∧ (u).toInt < (ns : Int)) ∧ ¬ (σ (11, (u).toNatClampNeg, 0) 4).toInt = 0
  · rw [if_pos c_2_1]
    refine lv_astore (lv' := [(4, .ref (L (11, (u).toNatClampNeg, 0))), (0, .ref (L (0, 0, 0))), (1, .int (u)), (2, .int (q)), (3, .int (v))]) hx hb dX6_search_5 hl (by decide) rfl (fun ls hl => ?_)
    refine lv_aload hx hb dX6_search_7 (lv_at hl 0 rfl) ?_
    refine lv_ifnonnull (tgt := 15) hx hb dX6_search_9 (by decide) ?_
    refine lv_aload_n hx hb dX6_search_15 rfl (lv_at hl 1 rfl) ?_
    refine g_get (C := RX6) (T := TX6) (N := 4) (v := .ref (L (2, 0, 0))) hx hb hts inX6g hown hK hG (0, 0, 0) ⟨rfl, rfl⟩ (x_at_0 cy L ns kk (0) (0) (σ (0, 0, 0))) rfl 1 (by decide) fl_X6_19 rfl dX6_search_16 ?_
    refine lv_iload_n hx hb dX6_search_19 rfl (lv_at hl 3 rfl) ?_
    refine g_cont (va_runV (As := [.int (q)]) (rest := []) ⟨hx, hb, hml, hown, hts⟩ (c_X1_has l D cy L ns kk σ (q)) (cwV 1 hts gV_X6_55 rfl rfl rfl (by decide +kernel) ⟨Nat.le_of_ble_eq_true rfl, Nat.le_of_ble_eq_true rfl⟩) (g_preV hK hN hG (x := (2, 0, 0)) ⟨rfl, rfl⟩ (q := (RX1, TX1, 5)) (x_at_2 cy L ns kk (0) (0) (σ (2, 0, 0))) rfl) rfl rfl hl.1 rfl (lv_room (Nat.le_of_ble_eq_true rfl)) dX6_search_20 ⟨Nat.zero_le _, Nat.zero_le _⟩) hS (fun H locs hG hS => ?_)
    refine W.eq (g2 := F0 m 23 ls [.int (g_b (0 ≤ (q).toInt ∧ (q).toInt < (σ (2, 0, 0) 4).toInt))]) rfl ?_
    refine kz_b_ne (tgt := 34) hx hb dX6_search_23 (by decide) (fun c_23_2 => ?_) (fun c_23_2 => ?_)
    · refine lv_aload hx hb dX6_search_34 (lv_at hl 0 rfl) ?_
      refine lv_iload_n hx hb dX6_search_36 rfl (lv_at hl 4 rfl) ?_
      refine g_cont (va_runV (As := [.int (v)]) (rest := []) ⟨hx, hb, hml, hown, hts⟩ (c_X5_setOfName l D cy L ns kk σ ((u).toNatClampNeg) (by rw [g_cl]; omega) (v) (hkA _ (by rw [g_cl]; omega))) (cwV 1 hts gV_X6_62 rfl rfl rfl (by decide +kernel) ⟨Nat.le_of_ble_eq_true rfl, Nat.le_of_ble_eq_true rfl⟩) (g_preV hK hN hG (x := (11, (u).toNatClampNeg, 0)) ⟨(by rw [g_cl]; omega), rfl⟩ (q := (RX5, TX5, 7)) (x_at_11 cy L ns kk ((u).toNatClampNeg) (0) (σ (11, (u).toNatClampNeg, 0))) rfl) rfl rfl hl.1 rfl (lv_room (Nat.le_of_ble_eq_true rfl)) dX6_search_37 ⟨Nat.zero_le _, Nat.zero_le _⟩) hS (fun H locs hG hS => ?_)
      refine W.eq (g2 := F0 m 40 ls [(if 0 ≤ (v).toInt ∧ (v).toInt < ((kk (u).toNatClampNeg : Nat) : Int) then .ref (L (18, (u).toNatClampNeg, (v).toNatClampNeg)) else .null)]) rfl ?_
      by_cases c_37_3 : 0 ≤ (v).toInt ∧ (v).toInt < ((kk (u).toNatClampNeg : Nat) : Int)
      · rw [if_pos c_37_3]
        refine lv_astore (lv' := [(5, .ref (L (18, (u).toNatClampNeg, (v).toNatClampNeg))), (4, .ref (L (11, (u).toNatClampNeg, 0))), (0, .ref (L (0, 0, 0))), (1, .int (u)), (2, .int (q)), (3, .int (v))]) hx hb dX6_search_40 hl (by decide) rfl (fun ls hl => ?_)
        refine lv_aload hx hb dX6_search_42 (lv_at hl 0 rfl) ?_
        refine lv_ifnonnull (tgt := 55) hx hb dX6_search_44 (by decide) ?_
        refine lv_aload hx hb dX6_search_55 (lv_at hl 0 rfl) ?_
        refine g_cont (va_runV (As := []) (rest := []) ⟨hx, hb, hml, hown, hts⟩ (c_X3_make l D cy L ns kk σ ((u).toNatClampNeg) ((v).toNatClampNeg) (by rw [g_cl]; omega) (by rw [g_cl]; omega)) (cwV 0 hts gV_X6_66 rfl rfl rfl (by decide +kernel) ⟨Nat.le_of_ble_eq_true rfl, Nat.le_of_ble_eq_true rfl⟩) (g_preV hK hN hG (x := (18, (u).toNatClampNeg, (v).toNatClampNeg)) ⟨(by rw [g_cl]; omega), (by rw [g_cl]; omega)⟩ (q := (RX3, TX3, 3)) (x_at_18 cy L ns kk ((u).toNatClampNeg) ((v).toNatClampNeg) (σ (18, (u).toNatClampNeg, (v).toNatClampNeg))) rfl) rfl rfl hl.1 rfl (lv_room (Nat.le_of_ble_eq_true rfl)) dX6_search_57 ⟨Nat.zero_le _, Nat.zero_le _⟩) hS (fun H locs hG hS => ?_)
        refine W.eq (g2 := F0 m 60 ls []) rfl ?_
        refine lv_iconst (v := 0) hx hb dX6_search_60 (by decide) ?_
        refine lv_istore (lv' := [(6, .int 0), (5, .ref (L (18, (u).toNatClampNeg, (v).toNatClampNeg))), (4, .ref (L (11, (u).toNatClampNeg, 0))), (0, .ref (L (0, 0, 0))), (1, .int (u)), (2, .int (q)), (3, .int (v))]) hx hb dX6_search_61 hl (by decide) rfl (fun ls hl => ?_)
        refine lp_srch l D cy L ns kk ⟨hx, hb, hr, hlk, hml, hown, hts, hK, hN⟩ ((u).toNatClampNeg) ((v).toNatClampNeg) (by rw [g_cl]; omega) (by rw [g_cl]; omega) (σ (1, 0, 0) 2).toInt.toNat (by omega) q (σ (1, 0, 0) 2).toInt.toNat (x_make σ ((u).toNatClampNeg) ((v).toNatClampNeg)) 0 H locs ls (by omega) ⟨by rw [show (x_make σ ((u).toNatClampNeg) ((v).toNatClampNeg)) (1, 0, 0) 2 = σ (1, 0, 0) 2 from by simp [x_make, g_up_at]]; omega, by simpa [x_make, g_up_at] using q40, by unfold x_make; rw [g_up_same]; decide⟩ hG hS (lv_sub hl [0, 3, 5, 2, 1] rfl) (fun H locs ls hG hS hl => ?_)
        refine lv_aload hx hb dX6_search_105 (lv_at hl 1 rfl) ?_
        refine g_cont (va_runV (As := []) (rest := []) ⟨hx, hb, hml, hown, hts⟩ (c_X3_count l D cy L ns kk (x_srch σ ((u).toNatClampNeg) ((v).toNatClampNeg) q) ((u).toNatClampNeg) ((v).toNatClampNeg) (by rw [g_cl]; omega) (by rw [g_cl]; omega)) (cwV 0 hts gV_X6_82 rfl rfl rfl (by decide +kernel) ⟨Nat.le_of_ble_eq_true rfl, Nat.le_of_ble_eq_true rfl⟩) (g_preV hK hN hG (x := (18, (u).toNatClampNeg, (v).toNatClampNeg)) ⟨(by rw [g_cl]; omega), (by rw [g_cl]; omega)⟩ (q := (RX3, TX3, 3)) (x_at_18 cy L ns kk ((u).toNatClampNeg) ((v).toNatClampNeg) ((x_srch σ ((u).toNatClampNeg) ((v).toNatClampNeg) q) (18, (u).toNatClampNeg, (v).toNatClampNeg))) rfl) rfl rfl hl.1 rfl (lv_room (Nat.le_of_ble_eq_true rfl)) dX6_search_107 ⟨Nat.zero_le _, Nat.zero_le _⟩) hS (fun H locs hG hS => ?_)
        refine W.eq (g2 := F0 m 110 ls [.int ((x_srch σ ((u).toNatClampNeg) ((v).toNatClampNeg) q) (18, (u).toNatClampNeg, (v).toNatClampNeg) 1)]) rfl ?_
        refine kz_if_ne (X := ((x_srch σ ((u).toNatClampNeg) ((v).toNatClampNeg) q) (18, (u).toNatClampNeg, (v).toNatClampNeg) 1).toInt) hx hb rfl dX6_search_110 (tgt := 123) (by decide) (fun c_110_4 => ?_) (fun c_110_4 => ?_)
        · refine lv_aload hx hb dX6_search_123 (lv_at hl 1 rfl) ?_
          refine g_cont (va_runV (As := []) (rest := []) ⟨hx, hb, hml, hown, hts⟩ (c_X3_count l D cy L ns kk (x_srch σ ((u).toNatClampNeg) ((v).toNatClampNeg) q) ((u).toNatClampNeg) ((v).toNatClampNeg) (by rw [g_cl]; omega) (by rw [g_cl]; omega)) (cwV 0 hts gV_X6_82 rfl rfl rfl (by decide +kernel) ⟨Nat.le_of_ble_eq_true rfl, Nat.le_of_ble_eq_true rfl⟩) (g_preV hK hN hG (x := (18, (u).toNatClampNeg, (v).toNatClampNeg)) ⟨(by rw [g_cl]; omega), (by rw [g_cl]; omega)⟩ (q := (RX3, TX3, 3)) (x_at_18 cy L ns kk ((u).toNatClampNeg) ((v).toNatClampNeg) ((x_srch σ ((u).toNatClampNeg) ((v).toNatClampNeg) q) (18, (u).toNatClampNeg, (v).toNatClampNeg))) rfl) rfl rfl hl.1 rfl (lv_room (Nat.le_of_ble_eq_true rfl)) dX6_search_125 ⟨Nat.zero_le _, Nat.zero_le _⟩) hS (fun H locs hG hS => ?_)
          refine W.eq (g2 := F0 m 128 ls [.int ((x_srch σ ((u).toNatClampNeg) ((v).toNatClampNeg) q) (18, (u).toNatClampNeg, (v).toNatClampNeg) 1)]) rfl ?_
          exact s_iret hx hb hr hlk hG hS dX6_search_128 (by unfold x_searchR; (repeat' split) <;> first | rfl | (exfalso; omega)) (by unfold x_searchM; (repeat' split) <;> first | rfl | (exfalso; omega))
        · refine lv_aload hx hb dX6_search_113 (lv_at hl 0 rfl) ?_
          refine lv_bipush (v := 108) hx hb dX6_search_115 (by decide) ?_
          refine g_cont (va_runV (As := [.int 108]) (rest := []) ⟨hx, hb, hml, hown, hts⟩ (c_X5_diagnose l D cy L ns kk (x_srch σ ((u).toNatClampNeg) ((v).toNatClampNeg) q) ((u).toNatClampNeg) (by rw [g_cl]; omega) (108) (hkA _ (by rw [g_cl]; omega))) (cwV 1 hts gV_X6_59 rfl rfl rfl (by decide +kernel) ⟨Nat.le_of_ble_eq_true rfl, Nat.le_of_ble_eq_true rfl⟩) (g_preV hK hN hG (x := (11, (u).toNatClampNeg, 0)) ⟨(by rw [g_cl]; omega), rfl⟩ (q := (RX5, TX5, 7)) (x_at_11 cy L ns kk ((u).toNatClampNeg) (0) ((x_srch σ ((u).toNatClampNeg) ((v).toNatClampNeg) q) (11, (u).toNatClampNeg, 0))) rfl) rfl rfl hl.1 rfl (lv_room (Nat.le_of_ble_eq_true rfl)) dX6_search_117 ⟨Nat.zero_le _, Nat.zero_le _⟩) hS (fun H locs hG hS => ?_)
          refine W.eq (g2 := F0 m 120 ls [.int (-(108))]) rfl ?_
          refine lv_goto (tgt := 128) hx hb dX6_search_120 (by decide) ?_
          exact s_iret hx hb hr hlk hG hS dX6_search_128 (by unfold x_searchR; (repeat' split) <;> first | rfl | (exfalso; omega)) (by unfold x_searchM; (repeat' split) <;> first | rfl | (exfalso; omega))
      · rw [if_neg c_37_3]
        refine lv_astoreN (lv' := [(5, .null), (4, .ref (L (11, (u).toNatClampNeg, 0))), (0, .ref (L (0, 0, 0))), (1, .int (u)), (2, .int (q)), (3, .int (v))]) hx hb dX6_search_40 hl (by decide) rfl (fun ls hl => ?_)
        refine lv_aloadN hx hb dX6_search_42 (lv_at hl 0 rfl) ?_
        refine lv_ifnonnullN hx hb dX6_search_44 ?_
        refine lv_aload hx hb dX6_search_47 (lv_at hl 1 rfl) ?_
        refine lv_bipush (v := 104) hx hb dX6_search_49 (by decide) ?_
        refine g_cont (va_runV (As := [.int 104]) (rest := []) ⟨hx, hb, hml, hown, hts⟩ (c_X5_diagnose l D cy L ns kk σ ((u).toNatClampNeg) (by rw [g_cl]; omega) (104) (hkA _ (by rw [g_cl]; omega))) (cwV 1 hts gV_X6_59 rfl rfl rfl (by decide +kernel) ⟨Nat.le_of_ble_eq_true rfl, Nat.le_of_ble_eq_true rfl⟩) (g_preV hK hN hG (x := (11, (u).toNatClampNeg, 0)) ⟨(by rw [g_cl]; omega), rfl⟩ (q := (RX5, TX5, 7)) (x_at_11 cy L ns kk ((u).toNatClampNeg) (0) (σ (11, (u).toNatClampNeg, 0))) rfl) rfl rfl hl.1 rfl (lv_room (Nat.le_of_ble_eq_true rfl)) dX6_search_51 ⟨Nat.zero_le _, Nat.zero_le _⟩) hS (fun H locs hG hS => ?_)
        refine W.eq (g2 := F0 m 54 ls [.int (-(104))]) rfl ?_
        exact s_iret hx hb hr hlk hG hS dX6_search_54 (by unfold x_searchR; (repeat' split) <;> first | rfl | (exfalso; omega)) (by unfold x_searchM; (repeat' split) <;> first | rfl | (exfalso; omega))
    · refine lv_aload hx hb dX6_search_26 (lv_at hl 0 rfl) ?_
      refine lv_bipush (v := 103) hx hb dX6_search_28 (by decide) ?_
      refine g_cont (va_runV (As := [.int 103]) (rest := []) ⟨hx, hb, hml, hown, hts⟩ (c_X5_diagnose l D cy L ns kk σ ((u).toNatClampNeg) (by rw [g_cl]; omega) (103) (hkA _ (by rw [g_cl]; omega))) (cwV 1 hts gV_X6_59 rfl rfl rfl (by decide +kernel) ⟨Nat.le_of_ble_eq_true rfl, Nat.le_of_ble_eq_true rfl⟩) (g_preV hK hN hG (x := (11, (u).toNatClampNeg, 0)) ⟨(by rw [g_cl]; omega), rfl⟩ (q := (RX5, TX5, 7)) (x_at_11 cy L ns kk ((u).toNatClampNeg) (0) (σ (11, (u).toNatClampNeg, 0))) rfl) rfl rfl hl.1 rfl (lv_room (Nat.le_of_ble_eq_true rfl)) dX6_search_30 ⟨Nat.zero_le _, Nat.zero_le _⟩) hS (fun H locs hG hS => ?_)
      refine W.eq (g2 := F0 m 33 ls [.int (-(103))]) rfl ?_
      exact s_iret hx hb hr hlk hG hS dX6_search_33 (by unfold x_searchR; (repeat' split) <;> first | rfl | (exfalso; omega)) (by unfold x_searchM; (repeat' split) <;> first | rfl | (exfalso; omega))
  · rw [if_neg c_2_1]
    refine lv_astoreN (lv' := [(4, .null), (0, .ref (L (0, 0, 0))), (1, .int (u)), (2, .int (q)), (3, .int (v))]) hx hb dX6_search_5 hl (by decide) rfl (fun ls hl => ?_)
    refine lv_aloadN hx hb dX6_search_7 (lv_at hl 0 rfl) ?_
    refine lv_ifnonnullN hx hb dX6_search_9 ?_
    refine lv_bipush (v := (-101)) hx hb dX6_search_12 (by decide) ?_
    exact s_iret hx hb hr hlk hG hS dX6_search_14 (by unfold x_searchR; (repeat' split) <;> first | rfl | (exfalso; omega)) (by unfold x_searchM; (repeat' split) <;> first | rfl | (exfalso; omega))
set_option maxHeartbeats 4000000 in
set_option maxRecDepth 100000 in
theorem c_X6_size (l : Launch) (D : va_G) (cy : Nat → ClassId) (L : g_S → Nat) (ns : Nat) (kk : Nat → Nat) (σ : g_S → Nat → Int32) (u v : Int32) (hI : x_I ns kk σ) : x_Met l D cy L ns kk yX6_size (.code yX6_size cX6_size 5 (some .int)) 3 σ [.ref (L (0, 0, 0)), .int (u), .int (v)] (some (.int (x_sizeR σ ns kk u v))) σ := by
  refine g_Met.of (by decide) (Nat.le_of_ble_eq_true rfl) ?_
  intro pg e s m below meth c hx hb hr hlk hml hown hts hK hN H locs hG hS ls hl
  have hown : s.vm.findClass RX6 = some m.cls := hown
  have hl : lv_has ls 5 [(0, .ref (L (0, 0, 0))), (1, .int (u)), (2, .int (v))] := hl
  obtain ⟨⟨h0, hn⟩, ⟨q0, q40⟩, ⟨hs, h8⟩, hkA, hz4, hzA, hcA, hpA, htA⟩ := hI
  refine lv_aload_n hx hb dX6_size_0 rfl (lv_at hl 0 rfl) ?_
  refine lv_iload_n hx hb dX6_size_1 rfl (lv_at hl 1 rfl) ?_
  refine g_cont (va_runV (As := [.int (u)]) (rest := []) ⟨hx, hb, hml, hown, hts⟩ (c_X6_openSession l D cy L ns kk σ (u) hs h8 hz4) (cwV 1 hts gV_X6_51 rfl rfl rfl (by decide +kernel) ⟨Nat.le_of_ble_eq_true rfl, Nat.le_of_ble_eq_true rfl⟩) (g_preV hK hN hG (x := (0, 0, 0)) ⟨rfl, rfl⟩ (q := (RX6, TX6, 4)) (x_at_0 cy L ns kk (0) (0) (σ (0, 0, 0))) rfl) rfl rfl hl.1 rfl (lv_room (Nat.le_of_ble_eq_true rfl)) dX6_size_2 ⟨Nat.zero_le _, Nat.zero_le _⟩) hS (fun H locs hG hS => ?_)
  refine W.eq (g2 := F0 m 5 ls [(if (0 ≤ (u).toInt ∧ (u).toInt < (ns : Int)) ∧ ¬ (σ (11, (u).toNatClampNeg, 0) 4).toInt = 0 then .ref (L (11, (u).toNatClampNeg, 0)) else .null)]) rfl ?_
  by_cases c_2_1 : (0 ≤ (u).toInt ∧ (u).toInt < (ns : Int)) ∧ ¬ (σ (11, (u).toNatClampNeg, 0) 4).toInt = 0
  · rw [if_pos c_2_1]
    refine lv_astore_n (lv' := [(3, .ref (L (11, (u).toNatClampNeg, 0))), (0, .ref (L (0, 0, 0))), (1, .int (u)), (2, .int (v))]) hx hb dX6_size_5 rfl hl (by decide) rfl (fun ls hl => ?_)
    refine lv_aload_n hx hb dX6_size_6 rfl (lv_at hl 0 rfl) ?_
    refine lv_ifnonnull (tgt := 13) hx hb dX6_size_7 (by decide) ?_
    refine lv_aload_n hx hb dX6_size_13 rfl (lv_at hl 0 rfl) ?_
    refine lv_iload_n hx hb dX6_size_14 rfl (lv_at hl 3 rfl) ?_
    refine g_cont (va_runV (As := [.int (v)]) (rest := []) ⟨hx, hb, hml, hown, hts⟩ (c_X5_madeSet l D cy L ns kk σ ((u).toNatClampNeg) (by rw [g_cl]; omega) (v) (hkA _ (by rw [g_cl]; omega)) (hzA _ (by rw [g_cl]; omega))) (cwV 1 hts gV_X6_83 rfl rfl rfl (by decide +kernel) ⟨Nat.le_of_ble_eq_true rfl, Nat.le_of_ble_eq_true rfl⟩) (g_preV hK hN hG (x := (11, (u).toNatClampNeg, 0)) ⟨(by rw [g_cl]; omega), rfl⟩ (q := (RX5, TX5, 7)) (x_at_11 cy L ns kk ((u).toNatClampNeg) (0) (σ (11, (u).toNatClampNeg, 0))) rfl) rfl rfl hl.1 rfl (lv_room (Nat.le_of_ble_eq_true rfl)) dX6_size_15 ⟨Nat.zero_le _, Nat.zero_le _⟩) hS (fun H locs hG hS => ?_)
    refine W.eq (g2 := F0 m 18 ls [(if (0 ≤ (v).toInt ∧ (v).toInt < ((kk (u).toNatClampNeg : Nat) : Int)) ∧ ¬ (σ (18, (u).toNatClampNeg, (v).toNatClampNeg) 2).toInt = 0 then .ref (L (18, (u).toNatClampNeg, (v).toNatClampNeg)) else .null)]) rfl ?_
    by_cases c_15_2 : (0 ≤ (v).toInt ∧ (v).toInt < ((kk (u).toNatClampNeg : Nat) : Int)) ∧ ¬ (σ (18, (u).toNatClampNeg, (v).toNatClampNeg) 2).toInt = 0
    · rw [if_pos c_15_2]
      have hc9 := hcA (u).toNatClampNeg (by rw [g_cl]; omega) (v).toNatClampNeg (by rw [g_cl]; omega)
      refine lv_astore (lv' := [(4, .ref (L (18, (u).toNatClampNeg, (v).toNatClampNeg))), (3, .ref (L (11, (u).toNatClampNeg, 0))), (0, .ref (L (0, 0, 0))), (1, .int (u)), (2, .int (v))]) hx hb dX6_size_18 hl (by decide) rfl (fun ls hl => ?_)
      refine lv_aload hx hb dX6_size_20 (lv_at hl 0 rfl) ?_
      refine lv_ifnonnull (tgt := 30) hx hb dX6_size_22 (by decide) ?_
      refine lv_aload hx hb dX6_size_30 (lv_at hl 0 rfl) ?_
      refine g_cont (va_runV (As := []) (rest := []) ⟨hx, hb, hml, hown, hts⟩ (c_X3_count l D cy L ns kk σ ((u).toNatClampNeg) ((v).toNatClampNeg) (by rw [g_cl]; omega) (by rw [g_cl]; omega)) (cwV 0 hts gV_X6_82 rfl rfl rfl (by decide +kernel) ⟨Nat.le_of_ble_eq_true rfl, Nat.le_of_ble_eq_true rfl⟩) (g_preV hK hN hG (x := (18, (u).toNatClampNeg, (v).toNatClampNeg)) ⟨(by rw [g_cl]; omega), (by rw [g_cl]; omega)⟩ (q := (RX3, TX3, 3)) (x_at_18 cy L ns kk ((u).toNatClampNeg) ((v).toNatClampNeg) (σ (18, (u).toNatClampNeg, (v).toNatClampNeg))) rfl) rfl rfl hl.1 rfl (lv_room (Nat.le_of_ble_eq_true rfl)) dX6_size_32 ⟨Nat.zero_le _, Nat.zero_le _⟩) hS (fun H locs hG hS => ?_)
      refine W.eq (g2 := F0 m 35 ls [.int (σ (18, (u).toNatClampNeg, (v).toNatClampNeg) 1)]) rfl ?_
      exact s_iret hx hb hr hlk hG hS dX6_size_35 (by unfold x_sizeR; (repeat' split) <;> first | rfl | (exfalso; omega)) rfl
    · rw [if_neg c_15_2]
      refine lv_astoreN (lv' := [(4, .null), (3, .ref (L (11, (u).toNatClampNeg, 0))), (0, .ref (L (0, 0, 0))), (1, .int (u)), (2, .int (v))]) hx hb dX6_size_18 hl (by decide) rfl (fun ls hl => ?_)
      refine lv_aloadN hx hb dX6_size_20 (lv_at hl 0 rfl) ?_
      refine lv_ifnonnullN hx hb dX6_size_22 ?_
      refine lv_bipush (v := (-104)) hx hb dX6_size_25 (by decide) ?_
      refine lv_goto (tgt := 35) hx hb dX6_size_27 (by decide) ?_
      exact s_iret hx hb hr hlk hG hS dX6_size_35 (by unfold x_sizeR; (repeat' split) <;> first | rfl | (exfalso; omega)) rfl
  · rw [if_neg c_2_1]
    refine lv_astore_nN (lv' := [(3, .null), (0, .ref (L (0, 0, 0))), (1, .int (u)), (2, .int (v))]) hx hb dX6_size_5 rfl hl (by decide) rfl (fun ls hl => ?_)
    refine lv_aload_nN hx hb dX6_size_6 rfl (lv_at hl 0 rfl) ?_
    refine lv_ifnonnullN hx hb dX6_size_7 ?_
    refine lv_bipush (v := (-101)) hx hb dX6_size_10 (by decide) ?_
    exact s_iret hx hb hr hlk hG hS dX6_size_12 (by unfold x_sizeR; (repeat' split) <;> first | rfl | (exfalso; omega)) rfl
set_option maxHeartbeats 4000000 in
set_option maxRecDepth 100000 in
theorem lp_pres (l : Launch) (D : va_G) (cy : Nat → ClassId) (L : g_S → Nat) (ns : Nat) (kk : Nat → Nat) {pg : Program} {e : Env} {s : State} {m : MethodId} {args : Array Value} {below : List Frame} {meth : Method} {c : Code} {Q : State → Prop} (C0 : g_C pg s m meth c args cX6_present (some .int) 10 RX6 D (x_tys cy)) (i j : Nat) (hi : i < ns) (hj : j < kk i) (fr nn : Int32) :
    ∀ (n : Nat) (σ : g_S → Nat → Int32) (k : Nat) (H : Heap) (locs : List Loc) (ls : Array Slot), k + n = nn.toInt.toNat → (x_prI i j σ) → g_H D vwCl (x_dom ns kk) L (fun z => x_K cy L ns kk z (σ z)) H → va_S (g_A (x_dom ns kk) L) s.heap H locs → lv_has ls 10 [(8, .int (nI k)), (0, .ref (L (0, 0, 0))), (3, .int (fr)), (4, .int (nn)), (6, .ref (L (18, i, j))), (7, .ref (L (13, i, 0)))] →
    (∀ (H : Heap) (locs : List Loc) (ls : Array Slot), g_H D vwCl (x_dom ns kk) L (fun z => x_K cy L ns kk z ((x_presGo i j fr n k σ) z)) H → va_S (g_A (x_dom ns kk) L) s.heap H locs → lv_has ls 10 [(7, .ref (L (13, i, 0)))] → W pg l e (g_R 4) s m args below meth c H locs 0 0 Q (F0 m 129 ls [])) →
    W pg l e (g_R 4) s m args below meth c H locs 0 0 Q (F0 m 89 ls []) := by
  obtain ⟨hx, hb, hr, hlk, hml, hown, hts, hK, hN⟩ := C0
  intro n
  induction n with
  | zero =>
    intro σ k H locs ls hv9 hy hG hS hl kk9
    obtain ⟨hn, hr1, hs0, hs1⟩ := id hy
    have hr9 := g_rng nn
    have hz9 := g_nIT (show k < 2147483648 by omega)
    refine lv_iload hx hb dX6_present_89 (lv_at hl 0 rfl) ?_
    refine lv_iload hx hb dX6_present_91 (lv_at hl 3 rfl) ?_
    refine kz_icmp_ge (X := ((k : Nat) : Int)) (Y := (nn).toInt) hx hb (g_nIT (by omega)) rfl dX6_present_93 (tgt := 129) (by decide) (fun c_93_1 => ?_) (fun c_93_1 => ?_)
    · exact kk9 H locs ls hG hS (lv_sub hl [5] rfl)
    · exact absurd c_93_1 (by omega)
  | succ n ih =>
    intro σ k H locs ls hv9 hy hG hS hl kk9
    obtain ⟨hn, hr1, hs0, hs1⟩ := id hy
    have hr9 := g_rng nn
    have hz9 := g_nIT (show k < 2147483648 by omega)
    refine lv_iload hx hb dX6_present_89 (lv_at hl 0 rfl) ?_
    refine lv_iload hx hb dX6_present_91 (lv_at hl 3 rfl) ?_
    refine kz_icmp_ge (X := ((k : Nat) : Int)) (Y := (nn).toInt) hx hb (g_nIT (by omega)) rfl dX6_present_93 (tgt := 129) (by decide) (fun c_93_1 => ?_) (fun c_93_1 => ?_)
    · exact absurd c_93_1 (by omega)
    · refine lv_aload hx hb dX6_present_96 (lv_at hl 4 rfl) ?_
      refine lv_iload_n hx hb dX6_present_98 rfl (lv_at hl 2 rfl) ?_
      refine lv_iload hx hb dX6_present_99 (lv_at hl 0 rfl) ?_
      refine lv_iadd hx hb dX6_present_101 ?_
      refine g_cont (va_runV (As := [.int ((fr) + (nI k))]) (rest := []) ⟨hx, hb, hml, hown, hts⟩ (c_X3_recordAt l D cy L ns kk σ (i) (j) hi hj ((fr) + (nI k)) hr1) (cwV 1 hts gV_X6_95 rfl rfl rfl (by decide +kernel) ⟨Nat.le_of_ble_eq_true rfl, Nat.le_of_ble_eq_true rfl⟩) (g_preV hK hN hG (x := (18, i, j)) ⟨hi, hj⟩ (q := (RX3, TX3, 3)) (x_at_18 cy L ns kk (i) (j) (σ (18, i, j))) rfl) rfl rfl hl.1 rfl (lv_room (Nat.le_of_ble_eq_true rfl)) dX6_present_102 ⟨Nat.zero_le _, Nat.zero_le _⟩) hS (fun H locs hG hS => ?_)
      refine W.eq (g2 := F0 m 105 ls [.int (x_rsAt σ (i) (j) ((fr) + (nI k)))]) rfl ?_
      refine lv_istore (lv' := [(9, .int (x_rsAt σ (i) (j) ((fr) + (nI k)))), (8, .int (nI k)), (0, .ref (L (0, 0, 0))), (3, .int (fr)), (4, .int (nn)), (6, .ref (L (18, i, j))), (7, .ref (L (13, i, 0)))]) hx hb dX6_present_105 hl (by decide) rfl (fun ls hl => ?_)
      refine lv_aload hx hb dX6_present_107 (lv_at hl 6 rfl) ?_
      refine lv_iload hx hb dX6_present_109 (lv_at hl 0 rfl) ?_
      refine lv_aload_n hx hb dX6_present_111 rfl (lv_at hl 2 rfl) ?_
      refine g_get (C := RX6) (T := TX6) (N := 4) (v := .ref (L (1, 0, 0))) hx hb hts inX6g hown hK hG (0, 0, 0) ⟨rfl, rfl⟩ (x_at_0 cy L ns kk (0) (0) (σ (0, 0, 0))) rfl 0 (by decide) fl_X6_10 rfl dX6_present_112 ?_
      refine lv_iload hx hb dX6_present_115 (lv_at hl 0 rfl) ?_
      refine g_cont (va_runV (As := [.int (x_rsAt σ (i) (j) ((fr) + (nI k)))]) (rest := [.int (x_rsAt σ (i) (j) ((fr) + (nI k))), .ref (L (13, i, 0))]) ⟨hx, hb, hml, hown, hts⟩ (c_X2_bytesOf l D cy L ns kk σ (x_rsAt σ (i) (j) ((fr) + (nI k))) hn) (cwV 1 hts gV_X6_98 rfl rfl rfl (by decide +kernel) ⟨Nat.le_of_ble_eq_true rfl, Nat.le_of_ble_eq_true rfl⟩) (g_preV hK hN hG (x := (1, 0, 0)) ⟨rfl, rfl⟩ (q := (RX2, TX2, 3)) (x_at_1 cy L ns kk (0) (0) (σ (1, 0, 0))) rfl) rfl rfl hl.1 rfl (lv_room (Nat.le_of_ble_eq_true rfl)) dX6_present_117 ⟨Nat.zero_le _, Nat.zero_le _⟩) hS (fun H locs hG hS => ?_)
      refine W.eq (g2 := F0 m 120 ls [.int (x_bytesOf σ (x_rsAt σ (i) (j) ((fr) + (nI k)))), .int (x_rsAt σ (i) (j) ((fr) + (nI k))), .ref (L (13, i, 0))]) rfl ?_
      refine g_cont (va_runV (As := [.int (x_rsAt σ (i) (j) ((fr) + (nI k))), .int (x_bytesOf σ (x_rsAt σ (i) (j) ((fr) + (nI k))))]) (rest := []) ⟨hx, hb, hml, hown, hts⟩ (c_X0_add l D cy L ns kk σ (i) hi (x_rsAt σ (i) (j) ((fr) + (nI k))) (x_bytesOf σ (x_rsAt σ (i) (j) ((fr) + (nI k)))) hs0 hs1) (cwV 2 hts gV_X6_101 rfl rfl rfl (by decide +kernel) ⟨Nat.le_of_ble_eq_true rfl, Nat.le_of_ble_eq_true rfl⟩) (g_preV hK hN hG (x := (13, i, 0)) ⟨hi, rfl⟩ (q := (RX0, TX0, 6)) (x_at_13 cy L ns kk (i) (0) (σ (13, i, 0))) rfl) rfl rfl hl.1 rfl (lv_room (Nat.le_of_ble_eq_true rfl)) dX6_present_120 ⟨Nat.zero_le _, Nat.zero_le _⟩) hS (fun H locs hG hS => ?_)
      refine W.eq (g2 := F0 m 123 ls []) rfl ?_
      refine lv_iinc (v := nI (k + 1)) (lv' := [(8, .int (nI (k + 1))), (9, .int (x_rsAt σ (i) (j) ((fr) + (nI k)))), (0, .ref (L (0, 0, 0))), (3, .int (fr)), (4, .int (nn)), (6, .ref (L (18, i, j))), (7, .ref (L (13, i, 0)))]) hx hb dX6_present_123 hl (k := 1) rfl (nI_1 (k)) (by decide) rfl (fun ls hl => ?_)
      refine lv_goto (tgt := 89) hx hb dX6_present_126 (by decide) ?_
      have e90 : x_presGo i j fr (n + 1) k σ = x_presGo i j fr n (k + 1) (x_preAdd σ (i) (x_rsAt σ (i) (j) ((fr) + (nI k))) (x_bytesOf σ (x_rsAt σ (i) (j) ((fr) + (nI k))))) := (by rw [x_presGo_s])
      rw [e90] at kk9
      exact ih (x_preAdd σ (i) (x_rsAt σ (i) (j) ((fr) + (nI k))) (x_bytesOf σ (x_rsAt σ (i) (j) ((fr) + (nI k))))) (k + 1) H locs ls (by omega) (x_prI_add hy) hG hS (lv_sub hl [0, 2, 3, 4, 5, 6] rfl) kk9
set_option maxHeartbeats 4000000 in
set_option maxRecDepth 100000 in
theorem c_X6_present (l : Launch) (D : va_G) (cy : Nat → ClassId) (L : g_S → Nat) (ns : Nat) (kk : Nat → Nat) (σ : g_S → Nat → Int32) (u v fr nn : Int32) (hI : x_I ns kk σ) : x_Met l D cy L ns kk yX6_present (.code yX6_present cX6_present 10 (some .int)) 4 σ [.ref (L (0, 0, 0)), .int (u), .int (v), .int (fr), .int (nn)] (some (.int (x_presentR σ ns kk u v fr nn))) (x_presentM σ ns kk u v fr nn) := by
  refine g_Met.of (by decide) (Nat.le_of_ble_eq_true rfl) ?_
  intro pg e s m below meth c hx hb hr hlk hml hown hts hK hN H locs hG hS ls hl
  have hown : s.vm.findClass RX6 = some m.cls := hown
  have hl : lv_has ls 10 [(0, .ref (L (0, 0, 0))), (1, .int (u)), (2, .int (v)), (3, .int (fr)), (4, .int (nn))] := hl
  obtain ⟨⟨h0, hn⟩, ⟨q0, q40⟩, ⟨hs, h8⟩, hkA, hz4, hzA, hcA, hpA, htA⟩ := hI
  refine lv_aload_n hx hb dX6_present_0 rfl (lv_at hl 0 rfl) ?_
  refine lv_iload_n hx hb dX6_present_1 rfl (lv_at hl 1 rfl) ?_
  refine g_cont (va_runV (As := [.int (u)]) (rest := []) ⟨hx, hb, hml, hown, hts⟩ (c_X6_openSession l D cy L ns kk σ (u) hs h8 hz4) (cwV 1 hts gV_X6_51 rfl rfl rfl (by decide +kernel) ⟨Nat.le_of_ble_eq_true rfl, Nat.le_of_ble_eq_true rfl⟩) (g_preV hK hN hG (x := (0, 0, 0)) ⟨rfl, rfl⟩ (q := (RX6, TX6, 4)) (x_at_0 cy L ns kk (0) (0) (σ (0, 0, 0))) rfl) rfl rfl hl.1 rfl (lv_room (Nat.le_of_ble_eq_true rfl)) dX6_present_2 ⟨Nat.zero_le _, Nat.zero_le _⟩) hS (fun H locs hG hS => ?_)
  refine W.eq (g2 := F0 m 5 ls [(if (0 ≤ (u).toInt ∧ (u).toInt < (ns : Int)) ∧ ¬ (σ (11, (u).toNatClampNeg, 0) 4).toInt = 0 then .ref (L (11, (u).toNatClampNeg, 0)) else .null)]) rfl ?_
  by_cases c_2_1 : (0 ≤ (u).toInt ∧ (u).toInt < (ns : Int)) ∧ ¬ (σ (11, (u).toNatClampNeg, 0) 4).toInt = 0
  · rw [if_pos c_2_1]
    refine lv_astore (lv' := [(5, .ref (L (11, (u).toNatClampNeg, 0))), (0, .ref (L (0, 0, 0))), (1, .int (u)), (2, .int (v)), (3, .int (fr)), (4, .int (nn))]) hx hb dX6_present_5 hl (by decide) rfl (fun ls hl => ?_)
    refine lv_aload hx hb dX6_present_7 (lv_at hl 0 rfl) ?_
    refine lv_ifnonnull (tgt := 15) hx hb dX6_present_9 (by decide) ?_
    refine lv_aload hx hb dX6_present_15 (lv_at hl 0 rfl) ?_
    refine lv_iload_n hx hb dX6_present_17 rfl (lv_at hl 3 rfl) ?_
    refine g_cont (va_runV (As := [.int (v)]) (rest := []) ⟨hx, hb, hml, hown, hts⟩ (c_X5_madeSet l D cy L ns kk σ ((u).toNatClampNeg) (by rw [g_cl]; omega) (v) (hkA _ (by rw [g_cl]; omega)) (hzA _ (by rw [g_cl]; omega))) (cwV 1 hts gV_X6_83 rfl rfl rfl (by decide +kernel) ⟨Nat.le_of_ble_eq_true rfl, Nat.le_of_ble_eq_true rfl⟩) (g_preV hK hN hG (x := (11, (u).toNatClampNeg, 0)) ⟨(by rw [g_cl]; omega), rfl⟩ (q := (RX5, TX5, 7)) (x_at_11 cy L ns kk ((u).toNatClampNeg) (0) (σ (11, (u).toNatClampNeg, 0))) rfl) rfl rfl hl.1 rfl (lv_room (Nat.le_of_ble_eq_true rfl)) dX6_present_18 ⟨Nat.zero_le _, Nat.zero_le _⟩) hS (fun H locs hG hS => ?_)
    refine W.eq (g2 := F0 m 21 ls [(if (0 ≤ (v).toInt ∧ (v).toInt < ((kk (u).toNatClampNeg : Nat) : Int)) ∧ ¬ (σ (18, (u).toNatClampNeg, (v).toNatClampNeg) 2).toInt = 0 then .ref (L (18, (u).toNatClampNeg, (v).toNatClampNeg)) else .null)]) rfl ?_
    by_cases c_18_2 : (0 ≤ (v).toInt ∧ (v).toInt < ((kk (u).toNatClampNeg : Nat) : Int)) ∧ ¬ (σ (18, (u).toNatClampNeg, (v).toNatClampNeg) 2).toInt = 0
    · rw [if_pos c_18_2]
      have hc9 := hcA (u).toNatClampNeg (by rw [g_cl]; omega) (v).toNatClampNeg (by rw [g_cl]; omega)
      have hr9 := g_rng nn
      refine lv_astore (lv' := [(6, .ref (L (18, (u).toNatClampNeg, (v).toNatClampNeg))), (5, .ref (L (11, (u).toNatClampNeg, 0))), (0, .ref (L (0, 0, 0))), (1, .int (u)), (2, .int (v)), (3, .int (fr)), (4, .int (nn))]) hx hb dX6_present_21 hl (by decide) rfl (fun ls hl => ?_)
      refine lv_aload hx hb dX6_present_23 (lv_at hl 0 rfl) ?_
      refine lv_ifnonnull (tgt := 36) hx hb dX6_present_25 (by decide) ?_
      refine lv_iload hx hb dX6_present_36 (lv_at hl 6 rfl) ?_
      refine lv_iconst (v := 1) hx hb dX6_present_38 (by decide) ?_
      refine kz_icmp_ge (X := (nn).toInt) (Y := 1) hx hb rfl (by decide) dX6_present_39 (tgt := 50) (by decide) (fun c_39_3 => ?_) (fun c_39_3 => ?_)
      · refine lv_iload_n hx hb dX6_present_50 rfl (lv_at hl 5 rfl) ?_
        refine kz_if_lt (X := (fr).toInt) hx hb rfl dX6_present_51 (tgt := 66) (by decide) (fun c_51_4 => ?_) (fun c_51_4 => ?_)
        · refine lv_aload hx hb dX6_present_66 (lv_at hl 1 rfl) ?_
          refine lv_bipush (v := 105) hx hb dX6_present_68 (by decide) ?_
          refine g_cont (va_runV (As := [.int 105]) (rest := []) ⟨hx, hb, hml, hown, hts⟩ (c_X5_diagnose l D cy L ns kk σ ((u).toNatClampNeg) (by rw [g_cl]; omega) (105) (hkA _ (by rw [g_cl]; omega))) (cwV 1 hts gV_X6_59 rfl rfl rfl (by decide +kernel) ⟨Nat.le_of_ble_eq_true rfl, Nat.le_of_ble_eq_true rfl⟩) (g_preV hK hN hG (x := (11, (u).toNatClampNeg, 0)) ⟨(by rw [g_cl]; omega), rfl⟩ (q := (RX5, TX5, 7)) (x_at_11 cy L ns kk ((u).toNatClampNeg) (0) (σ (11, (u).toNatClampNeg, 0))) rfl) rfl rfl hl.1 rfl (lv_room (Nat.le_of_ble_eq_true rfl)) dX6_present_70 ⟨Nat.zero_le _, Nat.zero_le _⟩) hS (fun H locs hG hS => ?_)
          refine W.eq (g2 := F0 m 73 ls [.int (-(105))]) rfl ?_
          exact s_iret hx hb hr hlk hG hS dX6_present_73 (by unfold x_presentR; (repeat' split) <;> first | rfl | (exfalso; omega)) (by unfold x_presentM; (repeat' split) <;> first | rfl | (exfalso; omega))
        · refine lv_iload_n hx hb dX6_present_54 rfl (lv_at hl 5 rfl) ?_
          refine lv_aload hx hb dX6_present_55 (lv_at hl 0 rfl) ?_
          refine g_cont (va_runV (As := []) (rest := [.int (fr)]) ⟨hx, hb, hml, hown, hts⟩ (c_X3_count l D cy L ns kk σ ((u).toNatClampNeg) ((v).toNatClampNeg) (by rw [g_cl]; omega) (by rw [g_cl]; omega)) (cwV 0 hts gV_X6_82 rfl rfl rfl (by decide +kernel) ⟨Nat.le_of_ble_eq_true rfl, Nat.le_of_ble_eq_true rfl⟩) (g_preV hK hN hG (x := (18, (u).toNatClampNeg, (v).toNatClampNeg)) ⟨(by rw [g_cl]; omega), (by rw [g_cl]; omega)⟩ (q := (RX3, TX3, 3)) (x_at_18 cy L ns kk ((u).toNatClampNeg) ((v).toNatClampNeg) (σ (18, (u).toNatClampNeg, (v).toNatClampNeg))) rfl) rfl rfl hl.1 rfl (lv_room (Nat.le_of_ble_eq_true rfl)) dX6_present_57 ⟨Nat.zero_le _, Nat.zero_le _⟩) hS (fun H locs hG hS => ?_)
          refine W.eq (g2 := F0 m 60 ls [.int (σ (18, (u).toNatClampNeg, (v).toNatClampNeg) 1), .int (fr)]) rfl ?_
          refine lv_iload hx hb dX6_present_60 (lv_at hl 6 rfl) ?_
          refine lv_isub hx hb dX6_present_62 ?_
          have z_5 : ((σ (18, (u).toNatClampNeg, (v).toNatClampNeg) 1) - (nn)).toInt = ((σ (18, (u).toNatClampNeg, (v).toNatClampNeg) 1).toInt - (nn).toInt) := by have h1 : (σ (18, (u).toNatClampNeg, (v).toNatClampNeg) 1 : Int32).toInt = (σ (18, (u).toNatClampNeg, (v).toNatClampNeg) 1).toInt := rfl; have h2 : (nn : Int32).toInt = (nn).toInt := rfl; rw [g_subI (by omega) (by omega)] <;> omega
          refine kz_icmp_le (X := (fr).toInt) (Y := ((σ (18, (u).toNatClampNeg, (v).toNatClampNeg) 1).toInt - (nn).toInt)) hx hb rfl z_5 dX6_present_63 (tgt := 74) (by decide) (fun c_63_6 => ?_) (fun c_63_6 => ?_)
          · refine lv_aload hx hb dX6_present_74 (lv_at hl 1 rfl) ?_
            refine g_cont (va_runV (As := []) (rest := []) ⟨hx, hb, hml, hown, hts⟩ (c_X5_presented l D cy L ns kk σ ((u).toNatClampNeg) (by rw [g_cl]; omega)) (cwV 0 hts gV_X6_86 rfl rfl rfl (by decide +kernel) ⟨Nat.le_of_ble_eq_true rfl, Nat.le_of_ble_eq_true rfl⟩) (g_preV hK hN hG (x := (11, (u).toNatClampNeg, 0)) ⟨(by rw [g_cl]; omega), rfl⟩ (q := (RX5, TX5, 7)) (x_at_11 cy L ns kk ((u).toNatClampNeg) (0) (σ (11, (u).toNatClampNeg, 0))) rfl) rfl rfl hl.1 rfl (lv_room (Nat.le_of_ble_eq_true rfl)) dX6_present_76 ⟨Nat.zero_le _, Nat.zero_le _⟩) hS (fun H locs hG hS => ?_)
            refine W.eq (g2 := F0 m 79 ls [.ref (L (13, (u).toNatClampNeg, 0))]) rfl ?_
            refine lv_astore (lv' := [(7, .ref (L (13, (u).toNatClampNeg, 0))), (6, .ref (L (18, (u).toNatClampNeg, (v).toNatClampNeg))), (5, .ref (L (11, (u).toNatClampNeg, 0))), (0, .ref (L (0, 0, 0))), (1, .int (u)), (2, .int (v)), (3, .int (fr)), (4, .int (nn))]) hx hb dX6_present_79 hl (by decide) rfl (fun ls hl => ?_)
            refine lv_aload hx hb dX6_present_81 (lv_at hl 0 rfl) ?_
            refine g_cont (va_runV (As := []) (rest := []) ⟨hx, hb, hml, hown, hts⟩ (c_X0_clear l D cy L ns kk σ ((u).toNatClampNeg) (by rw [g_cl]; omega)) (cwV 0 hts gV_X6_90 rfl rfl rfl (by decide +kernel) ⟨Nat.le_of_ble_eq_true rfl, Nat.le_of_ble_eq_true rfl⟩) (g_preV hK hN hG (x := (13, (u).toNatClampNeg, 0)) ⟨(by rw [g_cl]; omega), rfl⟩ (q := (RX0, TX0, 6)) (x_at_13 cy L ns kk ((u).toNatClampNeg) (0) (σ (13, (u).toNatClampNeg, 0))) rfl) rfl rfl hl.1 rfl (lv_room (Nat.le_of_ble_eq_true rfl)) dX6_present_83 ⟨Nat.zero_le _, Nat.zero_le _⟩) hS (fun H locs hG hS => ?_)
            refine W.eq (g2 := F0 m 86 ls []) rfl ?_
            refine lv_iconst (v := 0) hx hb dX6_present_86 (by decide) ?_
            refine lv_istore (lv' := [(8, .int 0), (7, .ref (L (13, (u).toNatClampNeg, 0))), (6, .ref (L (18, (u).toNatClampNeg, (v).toNatClampNeg))), (5, .ref (L (11, (u).toNatClampNeg, 0))), (0, .ref (L (0, 0, 0))), (1, .int (u)), (2, .int (v)), (3, .int (fr)), (4, .int (nn))]) hx hb dX6_present_87 hl (by decide) rfl (fun ls hl => ?_)
            refine lp_pres l D cy L ns kk ⟨hx, hb, hr, hlk, hml, hown, hts, hK, hN⟩ ((u).toNatClampNeg) ((v).toNatClampNeg) (by rw [g_cl]; omega) (by rw [g_cl]; omega) fr nn nn.toInt.toNat (x_clear σ ((u).toNatClampNeg)) 0 H locs ls (by omega) ⟨by simpa [x_clear, g_up_at] using hn, by simpa [x_clear, g_up_at] using hc9.2, by unfold x_clear; simp [g_up_at], by unfold x_clear; simp [g_up_at]⟩ hG hS (lv_sub hl [0, 4, 7, 8, 2, 1] rfl) (fun H locs ls hG hS hl => ?_)
            refine lv_aload hx hb dX6_present_129 (lv_at hl 0 rfl) ?_
            refine g_cont (va_runV (As := []) (rest := []) ⟨hx, hb, hml, hown, hts⟩ (c_X0_segmentCount l D cy L ns kk (x_pres σ ((u).toNatClampNeg) ((v).toNatClampNeg) fr nn) ((u).toNatClampNeg) (by rw [g_cl]; omega)) (cwV 0 hts gV_X6_103 rfl rfl rfl (by decide +kernel) ⟨Nat.le_of_ble_eq_true rfl, Nat.le_of_ble_eq_true rfl⟩) (g_preV hK hN hG (x := (13, (u).toNatClampNeg, 0)) ⟨(by rw [g_cl]; omega), rfl⟩ (q := (RX0, TX0, 6)) (x_at_13 cy L ns kk ((u).toNatClampNeg) (0) ((x_pres σ ((u).toNatClampNeg) ((v).toNatClampNeg) fr nn) (13, (u).toNatClampNeg, 0))) rfl) rfl rfl hl.1 rfl (lv_room (Nat.le_of_ble_eq_true rfl)) dX6_present_131 ⟨Nat.zero_le _, Nat.zero_le _⟩) hS (fun H locs hG hS => ?_)
            refine W.eq (g2 := F0 m 134 ls [.int ((x_pres σ ((u).toNatClampNeg) ((v).toNatClampNeg) fr nn) (13, (u).toNatClampNeg, 0) 5)]) rfl ?_
            exact s_iret hx hb hr hlk hG hS dX6_present_134 (by unfold x_presentR; (repeat' split) <;> first | rfl | (exfalso; omega)) (by unfold x_presentM; (repeat' split) <;> first | rfl | (exfalso; omega))
          · refine lv_aload hx hb dX6_present_66 (lv_at hl 1 rfl) ?_
            refine lv_bipush (v := 105) hx hb dX6_present_68 (by decide) ?_
            refine g_cont (va_runV (As := [.int 105]) (rest := []) ⟨hx, hb, hml, hown, hts⟩ (c_X5_diagnose l D cy L ns kk σ ((u).toNatClampNeg) (by rw [g_cl]; omega) (105) (hkA _ (by rw [g_cl]; omega))) (cwV 1 hts gV_X6_59 rfl rfl rfl (by decide +kernel) ⟨Nat.le_of_ble_eq_true rfl, Nat.le_of_ble_eq_true rfl⟩) (g_preV hK hN hG (x := (11, (u).toNatClampNeg, 0)) ⟨(by rw [g_cl]; omega), rfl⟩ (q := (RX5, TX5, 7)) (x_at_11 cy L ns kk ((u).toNatClampNeg) (0) (σ (11, (u).toNatClampNeg, 0))) rfl) rfl rfl hl.1 rfl (lv_room (Nat.le_of_ble_eq_true rfl)) dX6_present_70 ⟨Nat.zero_le _, Nat.zero_le _⟩) hS (fun H locs hG hS => ?_)
            refine W.eq (g2 := F0 m 73 ls [.int (-(105))]) rfl ?_
            exact s_iret hx hb hr hlk hG hS dX6_present_73 (by unfold x_presentR; (repeat' split) <;> first | rfl | (exfalso; omega)) (by unfold x_presentM; (repeat' split) <;> first | rfl | (exfalso; omega))
      · refine lv_aload hx hb dX6_present_42 (lv_at hl 1 rfl) ?_
        refine lv_bipush (v := 107) hx hb dX6_present_44 (by decide) ?_
        refine g_cont (va_runV (As := [.int 107]) (rest := []) ⟨hx, hb, hml, hown, hts⟩ (c_X5_diagnose l D cy L ns kk σ ((u).toNatClampNeg) (by rw [g_cl]; omega) (107) (hkA _ (by rw [g_cl]; omega))) (cwV 1 hts gV_X6_59 rfl rfl rfl (by decide +kernel) ⟨Nat.le_of_ble_eq_true rfl, Nat.le_of_ble_eq_true rfl⟩) (g_preV hK hN hG (x := (11, (u).toNatClampNeg, 0)) ⟨(by rw [g_cl]; omega), rfl⟩ (q := (RX5, TX5, 7)) (x_at_11 cy L ns kk ((u).toNatClampNeg) (0) (σ (11, (u).toNatClampNeg, 0))) rfl) rfl rfl hl.1 rfl (lv_room (Nat.le_of_ble_eq_true rfl)) dX6_present_46 ⟨Nat.zero_le _, Nat.zero_le _⟩) hS (fun H locs hG hS => ?_)
        refine W.eq (g2 := F0 m 49 ls [.int (-(107))]) rfl ?_
        exact s_iret hx hb hr hlk hG hS dX6_present_49 (by unfold x_presentR; (repeat' split) <;> first | rfl | (exfalso; omega)) (by unfold x_presentM; (repeat' split) <;> first | rfl | (exfalso; omega))
    · rw [if_neg c_18_2]
      refine lv_astoreN (lv' := [(6, .null), (5, .ref (L (11, (u).toNatClampNeg, 0))), (0, .ref (L (0, 0, 0))), (1, .int (u)), (2, .int (v)), (3, .int (fr)), (4, .int (nn))]) hx hb dX6_present_21 hl (by decide) rfl (fun ls hl => ?_)
      refine lv_aloadN hx hb dX6_present_23 (lv_at hl 0 rfl) ?_
      refine lv_ifnonnullN hx hb dX6_present_25 ?_
      refine lv_aload hx hb dX6_present_28 (lv_at hl 1 rfl) ?_
      refine lv_bipush (v := 104) hx hb dX6_present_30 (by decide) ?_
      refine g_cont (va_runV (As := [.int 104]) (rest := []) ⟨hx, hb, hml, hown, hts⟩ (c_X5_diagnose l D cy L ns kk σ ((u).toNatClampNeg) (by rw [g_cl]; omega) (104) (hkA _ (by rw [g_cl]; omega))) (cwV 1 hts gV_X6_59 rfl rfl rfl (by decide +kernel) ⟨Nat.le_of_ble_eq_true rfl, Nat.le_of_ble_eq_true rfl⟩) (g_preV hK hN hG (x := (11, (u).toNatClampNeg, 0)) ⟨(by rw [g_cl]; omega), rfl⟩ (q := (RX5, TX5, 7)) (x_at_11 cy L ns kk ((u).toNatClampNeg) (0) (σ (11, (u).toNatClampNeg, 0))) rfl) rfl rfl hl.1 rfl (lv_room (Nat.le_of_ble_eq_true rfl)) dX6_present_32 ⟨Nat.zero_le _, Nat.zero_le _⟩) hS (fun H locs hG hS => ?_)
      refine W.eq (g2 := F0 m 35 ls [.int (-(104))]) rfl ?_
      exact s_iret hx hb hr hlk hG hS dX6_present_35 (by unfold x_presentR; (repeat' split) <;> first | rfl | (exfalso; omega)) (by unfold x_presentM; (repeat' split) <;> first | rfl | (exfalso; omega))
  · rw [if_neg c_2_1]
    refine lv_astoreN (lv' := [(5, .null), (0, .ref (L (0, 0, 0))), (1, .int (u)), (2, .int (v)), (3, .int (fr)), (4, .int (nn))]) hx hb dX6_present_5 hl (by decide) rfl (fun ls hl => ?_)
    refine lv_aloadN hx hb dX6_present_7 (lv_at hl 0 rfl) ?_
    refine lv_ifnonnullN hx hb dX6_present_9 ?_
    refine lv_bipush (v := (-101)) hx hb dX6_present_12 (by decide) ?_
    exact s_iret hx hb hr hlk hG hS dX6_present_14 (by unfold x_presentR; (repeat' split) <;> first | rfl | (exfalso; omega)) (by unfold x_presentM; (repeat' split) <;> first | rfl | (exfalso; omega))
set_option maxHeartbeats 4000000 in
set_option maxRecDepth 100000 in
theorem c_X6_segment (l : Launch) (D : va_G) (cy : Nat → ClassId) (L : g_S → Nat) (ns : Nat) (kk : Nat → Nat) (σ : g_S → Nat → Int32) (u p w : Int32) (hI : x_I ns kk σ) : x_Met l D cy L ns kk yX6_segment (.code yX6_segment cX6_segment 5 (some .int)) 2 σ [.ref (L (0, 0, 0)), .int (u), .int (p), .int (w)] (some (.int (x_segmentR σ ns u p w))) σ := by
  refine g_Met.of (by decide) (Nat.le_of_ble_eq_true rfl) ?_
  intro pg e s m below meth c hx hb hr hlk hml hown hts hK hN H locs hG hS ls hl
  have hown : s.vm.findClass RX6 = some m.cls := hown
  have hl : lv_has ls 5 [(0, .ref (L (0, 0, 0))), (1, .int (u)), (2, .int (p)), (3, .int (w))] := hl
  obtain ⟨⟨h0, hn⟩, ⟨q0, q40⟩, ⟨hs, h8⟩, hkA, hz4, hzA, hcA, hpA, htA⟩ := hI
  refine lv_aload_n hx hb dX6_segment_0 rfl (lv_at hl 0 rfl) ?_
  refine lv_iload_n hx hb dX6_segment_1 rfl (lv_at hl 1 rfl) ?_
  refine g_cont (va_runV (As := [.int (u)]) (rest := []) ⟨hx, hb, hml, hown, hts⟩ (c_X6_everOpened l D cy L ns kk σ (u) hs h8) (cwV 1 hts gV_X6_106 rfl rfl rfl (by decide +kernel) ⟨Nat.le_of_ble_eq_true rfl, Nat.le_of_ble_eq_true rfl⟩) (g_preV hK hN hG (x := (0, 0, 0)) ⟨rfl, rfl⟩ (q := (RX6, TX6, 4)) (x_at_0 cy L ns kk (0) (0) (σ (0, 0, 0))) rfl) rfl rfl hl.1 rfl (lv_room (Nat.le_of_ble_eq_true rfl)) dX6_segment_2 ⟨Nat.zero_le _, Nat.zero_le _⟩) hS (fun H locs hG hS => ?_)
  refine W.eq (g2 := F0 m 5 ls [(if 0 ≤ (u).toInt ∧ (u).toInt < (ns : Int) then .ref (L (11, (u).toNatClampNeg, 0)) else .null)]) rfl ?_
  by_cases c_2_1 : 0 ≤ (u).toInt ∧ (u).toInt < (ns : Int)
  · rw [if_pos c_2_1]
    refine lv_astore (lv' := [(4, .ref (L (11, (u).toNatClampNeg, 0))), (0, .ref (L (0, 0, 0))), (1, .int (u)), (2, .int (p)), (3, .int (w))]) hx hb dX6_segment_5 hl (by decide) rfl (fun ls hl => ?_)
    refine lv_aload hx hb dX6_segment_7 (lv_at hl 0 rfl) ?_
    refine lv_ifnonnull (tgt := 16) hx hb dX6_segment_9 (by decide) ?_
    refine lv_aload hx hb dX6_segment_16 (lv_at hl 0 rfl) ?_
    refine g_cont (va_runV (As := []) (rest := []) ⟨hx, hb, hml, hown, hts⟩ (c_X5_presented l D cy L ns kk σ ((u).toNatClampNeg) (by rw [g_cl]; omega)) (cwV 0 hts gV_X6_86 rfl rfl rfl (by decide +kernel) ⟨Nat.le_of_ble_eq_true rfl, Nat.le_of_ble_eq_true rfl⟩) (g_preV hK hN hG (x := (11, (u).toNatClampNeg, 0)) ⟨(by rw [g_cl]; omega), rfl⟩ (q := (RX5, TX5, 7)) (x_at_11 cy L ns kk ((u).toNatClampNeg) (0) (σ (11, (u).toNatClampNeg, 0))) rfl) rfl rfl hl.1 rfl (lv_room (Nat.le_of_ble_eq_true rfl)) dX6_segment_18 ⟨Nat.zero_le _, Nat.zero_le _⟩) hS (fun H locs hG hS => ?_)
    refine W.eq (g2 := F0 m 21 ls [.ref (L (13, (u).toNatClampNeg, 0))]) rfl ?_
    refine lv_iload_n hx hb dX6_segment_21 rfl (lv_at hl 3 rfl) ?_
    refine lv_iload_n hx hb dX6_segment_22 rfl (lv_at hl 4 rfl) ?_
    refine g_cont (va_runV (As := [.int (p), .int (w)]) (rest := []) ⟨hx, hb, hml, hown, hts⟩ (c_X0_tellSegment l D cy L ns kk σ ((u).toNatClampNeg) (by rw [g_cl]; omega) (p) (w) (by have := hpA (u).toNatClampNeg (by rw [g_cl]; omega); omega)) (cwV 2 hts gV_X6_109 rfl rfl rfl (by decide +kernel) ⟨Nat.le_of_ble_eq_true rfl, Nat.le_of_ble_eq_true rfl⟩) (g_preV hK hN hG (x := (13, (u).toNatClampNeg, 0)) ⟨(by rw [g_cl]; omega), rfl⟩ (q := (RX0, TX0, 6)) (x_at_13 cy L ns kk ((u).toNatClampNeg) (0) (σ (13, (u).toNatClampNeg, 0))) rfl) rfl rfl hl.1 rfl (lv_room (Nat.le_of_ble_eq_true rfl)) dX6_segment_23 ⟨Nat.zero_le _, Nat.zero_le _⟩) hS (fun H locs hG hS => ?_)
    refine W.eq (g2 := F0 m 26 ls [.int (x_tellSeg σ ((u).toNatClampNeg) (p) (w))]) rfl ?_
    exact s_iret hx hb hr hlk hG hS dX6_segment_26 (by unfold x_segmentR; (repeat' split) <;> first | rfl | (exfalso; omega)) rfl
  · rw [if_neg c_2_1]
    refine lv_astoreN (lv' := [(4, .null), (0, .ref (L (0, 0, 0))), (1, .int (u)), (2, .int (p)), (3, .int (w))]) hx hb dX6_segment_5 hl (by decide) rfl (fun ls hl => ?_)
    refine lv_aloadN hx hb dX6_segment_7 (lv_at hl 0 rfl) ?_
    refine lv_ifnonnullN hx hb dX6_segment_9 ?_
    refine lv_iconst (v := (-1)) hx hb dX6_segment_12 (by decide) ?_
    refine lv_goto (tgt := 26) hx hb dX6_segment_13 (by decide) ?_
    exact s_iret hx hb hr hlk hG hS dX6_segment_26 (by unfold x_segmentR; (repeat' split) <;> first | rfl | (exfalso; omega)) rfl
set_option maxHeartbeats 4000000 in
set_option maxRecDepth 100000 in
theorem c_X6_at (l : Launch) (D : va_G) (cy : Nat → ClassId) (L : g_S → Nat) (ns : Nat) (kk : Nat → Nat) (σ : g_S → Nat → Int32) (u p : Int32) (hI : x_I ns kk σ) : x_Met l D cy L ns kk yX6_at (.code yX6_at cX6_at 4 (some .int)) 1 σ [.ref (L (0, 0, 0)), .int (u), .int (p)] (some (.int (x_atR σ ns u p))) σ := by
  refine g_Met.of (by decide) (Nat.le_of_ble_eq_true rfl) ?_
  intro pg e s m below meth c hx hb hr hlk hml hown hts hK hN H locs hG hS ls hl
  have hown : s.vm.findClass RX6 = some m.cls := hown
  have hl : lv_has ls 4 [(0, .ref (L (0, 0, 0))), (1, .int (u)), (2, .int (p))] := hl
  obtain ⟨⟨h0, hn⟩, ⟨q0, q40⟩, ⟨hs, h8⟩, hkA, hz4, hzA, hcA, hpA, htA⟩ := hI
  refine lv_aload_n hx hb dX6_at_0 rfl (lv_at hl 0 rfl) ?_
  refine lv_iload_n hx hb dX6_at_1 rfl (lv_at hl 1 rfl) ?_
  refine g_cont (va_runV (As := [.int (u)]) (rest := []) ⟨hx, hb, hml, hown, hts⟩ (c_X6_everOpened l D cy L ns kk σ (u) hs h8) (cwV 1 hts gV_X6_106 rfl rfl rfl (by decide +kernel) ⟨Nat.le_of_ble_eq_true rfl, Nat.le_of_ble_eq_true rfl⟩) (g_preV hK hN hG (x := (0, 0, 0)) ⟨rfl, rfl⟩ (q := (RX6, TX6, 4)) (x_at_0 cy L ns kk (0) (0) (σ (0, 0, 0))) rfl) rfl rfl hl.1 rfl (lv_room (Nat.le_of_ble_eq_true rfl)) dX6_at_2 ⟨Nat.zero_le _, Nat.zero_le _⟩) hS (fun H locs hG hS => ?_)
  refine W.eq (g2 := F0 m 5 ls [(if 0 ≤ (u).toInt ∧ (u).toInt < (ns : Int) then .ref (L (11, (u).toNatClampNeg, 0)) else .null)]) rfl ?_
  by_cases c_2_1 : 0 ≤ (u).toInt ∧ (u).toInt < (ns : Int)
  · rw [if_pos c_2_1]
    refine lv_astore_n (lv' := [(3, .ref (L (11, (u).toNatClampNeg, 0))), (0, .ref (L (0, 0, 0))), (1, .int (u)), (2, .int (p))]) hx hb dX6_at_5 rfl hl (by decide) rfl (fun ls hl => ?_)
    refine lv_aload_n hx hb dX6_at_6 rfl (lv_at hl 0 rfl) ?_
    refine lv_ifnonnull (tgt := 14) hx hb dX6_at_7 (by decide) ?_
    refine lv_aload_n hx hb dX6_at_14 rfl (lv_at hl 0 rfl) ?_
    refine g_cont (va_runV (As := []) (rest := []) ⟨hx, hb, hml, hown, hts⟩ (c_X5_presented l D cy L ns kk σ ((u).toNatClampNeg) (by rw [g_cl]; omega)) (cwV 0 hts gV_X6_86 rfl rfl rfl (by decide +kernel) ⟨Nat.le_of_ble_eq_true rfl, Nat.le_of_ble_eq_true rfl⟩) (g_preV hK hN hG (x := (11, (u).toNatClampNeg, 0)) ⟨(by rw [g_cl]; omega), rfl⟩ (q := (RX5, TX5, 7)) (x_at_11 cy L ns kk ((u).toNatClampNeg) (0) (σ (11, (u).toNatClampNeg, 0))) rfl) rfl rfl hl.1 rfl (lv_room (Nat.le_of_ble_eq_true rfl)) dX6_at_15 ⟨Nat.zero_le _, Nat.zero_le _⟩) hS (fun H locs hG hS => ?_)
    refine W.eq (g2 := F0 m 18 ls [.ref (L (13, (u).toNatClampNeg, 0))]) rfl ?_
    refine lv_iload_n hx hb dX6_at_18 rfl (lv_at hl 3 rfl) ?_
    refine g_cont (va_runV (As := [.int (p)]) (rest := []) ⟨hx, hb, hml, hown, hts⟩ (c_X0_recordAt l D cy L ns kk σ ((u).toNatClampNeg) (by rw [g_cl]; omega) (p) (hpA _ (by rw [g_cl]; omega)).2.2) (cwV 1 hts gV_X6_113 rfl rfl rfl (by decide +kernel) ⟨Nat.le_of_ble_eq_true rfl, Nat.le_of_ble_eq_true rfl⟩) (g_preV hK hN hG (x := (13, (u).toNatClampNeg, 0)) ⟨(by rw [g_cl]; omega), rfl⟩ (q := (RX0, TX0, 6)) (x_at_13 cy L ns kk ((u).toNatClampNeg) (0) (σ (13, (u).toNatClampNeg, 0))) rfl) rfl rfl hl.1 rfl (lv_room (Nat.le_of_ble_eq_true rfl)) dX6_at_19 ⟨Nat.zero_le _, Nat.zero_le _⟩) hS (fun H locs hG hS => ?_)
    refine W.eq (g2 := F0 m 22 ls [.int (x_preAt σ ((u).toNatClampNeg) (p))]) rfl ?_
    exact s_iret hx hb hr hlk hG hS dX6_at_22 (by unfold x_atR; (repeat' split) <;> first | rfl | (exfalso; omega)) rfl
  · rw [if_neg c_2_1]
    refine lv_astore_nN (lv' := [(3, .null), (0, .ref (L (0, 0, 0))), (1, .int (u)), (2, .int (p))]) hx hb dX6_at_5 rfl hl (by decide) rfl (fun ls hl => ?_)
    refine lv_aload_nN hx hb dX6_at_6 rfl (lv_at hl 0 rfl) ?_
    refine lv_ifnonnullN hx hb dX6_at_7 ?_
    refine lv_iconst (v := (-1)) hx hb dX6_at_10 (by decide) ?_
    refine lv_goto (tgt := 22) hx hb dX6_at_11 (by decide) ?_
    exact s_iret hx hb hr hlk hG hS dX6_at_22 (by unfold x_atR; (repeat' split) <;> first | rfl | (exfalso; omega)) rfl
set_option maxHeartbeats 4000000 in
set_option maxRecDepth 100000 in
theorem c_X6_sort (l : Launch) (D : va_G) (cy : Nat → ClassId) (L : g_S → Nat) (ns : Nat) (kk : Nat → Nat) (σ : g_S → Nat → Int32) (u v x down : Int32) (hI : x_I ns kk σ) : x_Met l D cy L ns kk yX6_sort (.code yX6_sort cX6_sort 7 (some .int)) 3 σ [.ref (L (0, 0, 0)), .int (u), .int (v), .int (x), .int (down)] (some (.int (x_sortR σ ns kk u v x down))) (x_sortM σ ns kk u v x down) := by
  refine g_Met.of (by decide) (Nat.le_of_ble_eq_true rfl) ?_
  intro pg e s m below meth c hx hb hr hlk hml hown hts hK hN H locs hG hS ls hl
  have hown : s.vm.findClass RX6 = some m.cls := hown
  have hl : lv_has ls 7 [(0, .ref (L (0, 0, 0))), (1, .int (u)), (2, .int (v)), (3, .int (x)), (4, .int (down))] := hl
  obtain ⟨⟨h0, hn⟩, ⟨q0, q40⟩, ⟨hs, h8⟩, hkA, hz4, hzA, hcA, hpA, htA⟩ := hI
  refine lv_aload_n hx hb dX6_sort_0 rfl (lv_at hl 0 rfl) ?_
  refine lv_iload_n hx hb dX6_sort_1 rfl (lv_at hl 1 rfl) ?_
  refine g_cont (va_runV (As := [.int (u)]) (rest := []) ⟨hx, hb, hml, hown, hts⟩ (c_X6_openSession l D cy L ns kk σ (u) hs h8 hz4) (cwV 1 hts gV_X6_51 rfl rfl rfl (by decide +kernel) ⟨Nat.le_of_ble_eq_true rfl, Nat.le_of_ble_eq_true rfl⟩) (g_preV hK hN hG (x := (0, 0, 0)) ⟨rfl, rfl⟩ (q := (RX6, TX6, 4)) (x_at_0 cy L ns kk (0) (0) (σ (0, 0, 0))) rfl) rfl rfl hl.1 rfl (lv_room (Nat.le_of_ble_eq_true rfl)) dX6_sort_2 ⟨Nat.zero_le _, Nat.zero_le _⟩) hS (fun H locs hG hS => ?_)
  refine W.eq (g2 := F0 m 5 ls [(if (0 ≤ (u).toInt ∧ (u).toInt < (ns : Int)) ∧ ¬ (σ (11, (u).toNatClampNeg, 0) 4).toInt = 0 then .ref (L (11, (u).toNatClampNeg, 0)) else .null)]) rfl ?_
  by_cases c_2_1 : (0 ≤ (u).toInt ∧ (u).toInt < (ns : Int)) ∧ ¬ (σ (11, (u).toNatClampNeg, 0) 4).toInt = 0
  · rw [if_pos c_2_1]
    refine lv_astore (lv' := [(5, .ref (L (11, (u).toNatClampNeg, 0))), (0, .ref (L (0, 0, 0))), (1, .int (u)), (2, .int (v)), (3, .int (x)), (4, .int (down))]) hx hb dX6_sort_5 hl (by decide) rfl (fun ls hl => ?_)
    refine lv_aload hx hb dX6_sort_7 (lv_at hl 0 rfl) ?_
    refine lv_ifnonnull (tgt := 15) hx hb dX6_sort_9 (by decide) ?_
    refine lv_aload hx hb dX6_sort_15 (lv_at hl 0 rfl) ?_
    refine lv_iconst (v := 1) hx hb dX6_sort_17 (by decide) ?_
    refine g_cont (va_runV (As := [.int 1]) (rest := []) ⟨hx, hb, hml, hown, hts⟩ (c_X5_may l D cy L ns kk σ ((u).toNatClampNeg) (by rw [g_cl]; omega) (1)) (cwV 1 hts gV_X6_114 rfl rfl rfl (by decide +kernel) ⟨Nat.le_of_ble_eq_true rfl, Nat.le_of_ble_eq_true rfl⟩) (g_preV hK hN hG (x := (11, (u).toNatClampNeg, 0)) ⟨(by rw [g_cl]; omega), rfl⟩ (q := (RX5, TX5, 7)) (x_at_11 cy L ns kk ((u).toNatClampNeg) (0) (σ (11, (u).toNatClampNeg, 0))) rfl) rfl rfl hl.1 rfl (lv_room (Nat.le_of_ble_eq_true rfl)) dX6_sort_18 ⟨Nat.zero_le _, Nat.zero_le _⟩) hS (fun H locs hG hS => ?_)
    refine W.eq (g2 := F0 m 21 ls [.int (g_b (¬ (σ (11, (u).toNatClampNeg, 0) 0 &&& (1)).toInt = 0))]) rfl ?_
    refine kz_b_ne (tgt := 32) hx hb dX6_sort_21 (by decide) (fun c_21_2 => ?_) (fun c_21_2 => ?_)
    · refine lv_aload hx hb dX6_sort_32 (lv_at hl 0 rfl) ?_
      refine lv_iload_n hx hb dX6_sort_34 rfl (lv_at hl 3 rfl) ?_
      refine g_cont (va_runV (As := [.int (v)]) (rest := []) ⟨hx, hb, hml, hown, hts⟩ (c_X5_madeSet l D cy L ns kk σ ((u).toNatClampNeg) (by rw [g_cl]; omega) (v) (hkA _ (by rw [g_cl]; omega)) (hzA _ (by rw [g_cl]; omega))) (cwV 1 hts gV_X6_83 rfl rfl rfl (by decide +kernel) ⟨Nat.le_of_ble_eq_true rfl, Nat.le_of_ble_eq_true rfl⟩) (g_preV hK hN hG (x := (11, (u).toNatClampNeg, 0)) ⟨(by rw [g_cl]; omega), rfl⟩ (q := (RX5, TX5, 7)) (x_at_11 cy L ns kk ((u).toNatClampNeg) (0) (σ (11, (u).toNatClampNeg, 0))) rfl) rfl rfl hl.1 rfl (lv_room (Nat.le_of_ble_eq_true rfl)) dX6_sort_35 ⟨Nat.zero_le _, Nat.zero_le _⟩) hS (fun H locs hG hS => ?_)
      refine W.eq (g2 := F0 m 38 ls [(if (0 ≤ (v).toInt ∧ (v).toInt < ((kk (u).toNatClampNeg : Nat) : Int)) ∧ ¬ (σ (18, (u).toNatClampNeg, (v).toNatClampNeg) 2).toInt = 0 then .ref (L (18, (u).toNatClampNeg, (v).toNatClampNeg)) else .null)]) rfl ?_
      by_cases c_35_3 : (0 ≤ (v).toInt ∧ (v).toInt < ((kk (u).toNatClampNeg : Nat) : Int)) ∧ ¬ (σ (18, (u).toNatClampNeg, (v).toNatClampNeg) 2).toInt = 0
      · rw [if_pos c_35_3]
        have hc9 := hcA (u).toNatClampNeg (by rw [g_cl]; omega) (v).toNatClampNeg (by rw [g_cl]; omega)
        refine lv_astore (lv' := [(6, .ref (L (18, (u).toNatClampNeg, (v).toNatClampNeg))), (5, .ref (L (11, (u).toNatClampNeg, 0))), (0, .ref (L (0, 0, 0))), (1, .int (u)), (2, .int (v)), (3, .int (x)), (4, .int (down))]) hx hb dX6_sort_38 hl (by decide) rfl (fun ls hl => ?_)
        refine lv_aload hx hb dX6_sort_40 (lv_at hl 0 rfl) ?_
        refine lv_ifnonnull (tgt := 53) hx hb dX6_sort_42 (by decide) ?_
        refine lv_iload_n hx hb dX6_sort_53 rfl (lv_at hl 5 rfl) ?_
        refine g_cont (va_runS (As := [.int (x)]) (rest := []) ⟨hx, hb, hml, hown, hts⟩ (c_X6_isIndex l D cy L ns kk σ (x)) (cwS 1 hts gS_X6_117 rfl rfl rfl (by decide +kernel) ⟨Nat.le_of_ble_eq_true rfl, Nat.le_of_ble_eq_true rfl⟩) (g_preS hK hN hG) rfl rfl hl.1 rfl (lv_room (Nat.le_of_ble_eq_true rfl)) dX6_sort_54 ⟨Nat.zero_le _, Nat.zero_le _⟩) hS (fun H locs hG hS => ?_)
        refine W.eq (g2 := F0 m 57 ls [.int (g_b (0 ≤ (x).toInt ∧ (x).toInt < 5))]) rfl ?_
        refine kz_b_ne (tgt := 68) hx hb dX6_sort_57 (by decide) (fun c_57_4 => ?_) (fun c_57_4 => ?_)
        · refine lv_aload hx hb dX6_sort_68 (lv_at hl 0 rfl) ?_
          refine lv_aload_n hx hb dX6_sort_70 rfl (lv_at hl 2 rfl) ?_
          refine g_get (C := RX6) (T := TX6) (N := 4) (v := .ref (L (1, 0, 0))) hx hb hts inX6g hown hK hG (0, 0, 0) ⟨rfl, rfl⟩ (x_at_0 cy L ns kk (0) (0) (σ (0, 0, 0))) rfl 0 (by decide) fl_X6_10 rfl dX6_sort_71 ?_
          refine lv_iload_n hx hb dX6_sort_74 rfl (lv_at hl 5 rfl) ?_
          refine lv_iload hx hb dX6_sort_75 (lv_at hl 6 rfl) ?_
          refine g_cont (va_runV (As := [.ref (L (1, 0, 0)), .int (x), .int (down)]) (rest := []) ⟨hx, hb, hml, hown, hts⟩ (c_X3_putInOrder l D cy L ns kk σ ((u).toNatClampNeg) ((v).toNatClampNeg) (by rw [g_cl]; omega) (by rw [g_cl]; omega) (x) (down) hn (hcA _ (by rw [g_cl]; omega) _ (by rw [g_cl]; omega)).1 (hcA _ (by rw [g_cl]; omega) _ (by rw [g_cl]; omega)).2) (cwV 3 hts gV_X6_120 rfl rfl rfl (by decide +kernel) ⟨Nat.le_of_ble_eq_true rfl, Nat.le_of_ble_eq_true rfl⟩) (g_preV hK hN hG (x := (18, (u).toNatClampNeg, (v).toNatClampNeg)) ⟨(by rw [g_cl]; omega), (by rw [g_cl]; omega)⟩ (q := (RX3, TX3, 3)) (x_at_18 cy L ns kk ((u).toNatClampNeg) ((v).toNatClampNeg) (σ (18, (u).toNatClampNeg, (v).toNatClampNeg))) rfl) rfl rfl hl.1 rfl (lv_room (Nat.le_of_ble_eq_true rfl)) dX6_sort_77 ⟨Nat.zero_le _, Nat.zero_le _⟩) hS (fun H locs hG hS => ?_)
          refine W.eq (g2 := F0 m 80 ls []) rfl ?_
          refine lv_aload hx hb dX6_sort_80 (lv_at hl 0 rfl) ?_
          refine lv_aload_n hx hb dX6_sort_82 rfl (lv_at hl 2 rfl) ?_
          refine g_get (C := RX6) (T := TX6) (N := 4) (v := .ref (L (1, 0, 0))) hx hb hts inX6g hown hK hG (0, 0, 0) ⟨rfl, rfl⟩ (x_at_0 cy L ns kk (0) (0) ((x_ord σ ((u).toNatClampNeg) ((v).toNatClampNeg) (x) (down)) (0, 0, 0))) rfl 0 (by decide) fl_X6_10 rfl dX6_sort_83 ?_
          refine lv_iload_n hx hb dX6_sort_86 rfl (lv_at hl 5 rfl) ?_
          refine g_cont (va_runV (As := [.ref (L (1, 0, 0)), .int (x)]) (rest := []) ⟨hx, hb, hml, hown, hts⟩ (c_X3_countWithoutTerm l D cy L ns kk (x_ord σ ((u).toNatClampNeg) ((v).toNatClampNeg) (x) (down)) ((u).toNatClampNeg) ((v).toNatClampNeg) (by rw [g_cl]; omega) (by rw [g_cl]; omega) (x) (by rw [x_ord_row (by simp)]; exact hn) (by rw [x_ord_row (by simp)]; exact hc9.2)) (cwV 2 hts gV_X6_124 rfl rfl rfl (by decide +kernel) ⟨Nat.le_of_ble_eq_true rfl, Nat.le_of_ble_eq_true rfl⟩) (g_preV hK hN hG (x := (18, (u).toNatClampNeg, (v).toNatClampNeg)) ⟨(by rw [g_cl]; omega), (by rw [g_cl]; omega)⟩ (q := (RX3, TX3, 3)) (x_at_18 cy L ns kk ((u).toNatClampNeg) ((v).toNatClampNeg) ((x_ord σ ((u).toNatClampNeg) ((v).toNatClampNeg) (x) (down)) (18, (u).toNatClampNeg, (v).toNatClampNeg))) rfl) rfl rfl hl.1 rfl (lv_room (Nat.le_of_ble_eq_true rfl)) dX6_sort_87 ⟨Nat.zero_le _, Nat.zero_le _⟩) hS (fun H locs hG hS => ?_)
          refine W.eq (g2 := F0 m 90 ls [.int (x_cwt (x_ord σ ((u).toNatClampNeg) ((v).toNatClampNeg) (x) (down)) ((u).toNatClampNeg) ((v).toNatClampNeg) (x))]) rfl ?_
          exact s_iret hx hb hr hlk hG hS dX6_sort_90 (by unfold x_sortR; (repeat' split) <;> first | rfl | (exfalso; omega)) (by unfold x_sortM; (repeat' split) <;> first | rfl | (exfalso; omega))
        · refine lv_aload hx hb dX6_sort_60 (lv_at hl 1 rfl) ?_
          refine lv_bipush (v := 106) hx hb dX6_sort_62 (by decide) ?_
          refine g_cont (va_runV (As := [.int 106]) (rest := []) ⟨hx, hb, hml, hown, hts⟩ (c_X5_diagnose l D cy L ns kk σ ((u).toNatClampNeg) (by rw [g_cl]; omega) (106) (hkA _ (by rw [g_cl]; omega))) (cwV 1 hts gV_X6_59 rfl rfl rfl (by decide +kernel) ⟨Nat.le_of_ble_eq_true rfl, Nat.le_of_ble_eq_true rfl⟩) (g_preV hK hN hG (x := (11, (u).toNatClampNeg, 0)) ⟨(by rw [g_cl]; omega), rfl⟩ (q := (RX5, TX5, 7)) (x_at_11 cy L ns kk ((u).toNatClampNeg) (0) (σ (11, (u).toNatClampNeg, 0))) rfl) rfl rfl hl.1 rfl (lv_room (Nat.le_of_ble_eq_true rfl)) dX6_sort_64 ⟨Nat.zero_le _, Nat.zero_le _⟩) hS (fun H locs hG hS => ?_)
          refine W.eq (g2 := F0 m 67 ls [.int (-(106))]) rfl ?_
          exact s_iret hx hb hr hlk hG hS dX6_sort_67 (by unfold x_sortR; (repeat' split) <;> first | rfl | (exfalso; omega)) (by unfold x_sortM; (repeat' split) <;> first | rfl | (exfalso; omega))
      · rw [if_neg c_35_3]
        refine lv_astoreN (lv' := [(6, .null), (5, .ref (L (11, (u).toNatClampNeg, 0))), (0, .ref (L (0, 0, 0))), (1, .int (u)), (2, .int (v)), (3, .int (x)), (4, .int (down))]) hx hb dX6_sort_38 hl (by decide) rfl (fun ls hl => ?_)
        refine lv_aloadN hx hb dX6_sort_40 (lv_at hl 0 rfl) ?_
        refine lv_ifnonnullN hx hb dX6_sort_42 ?_
        refine lv_aload hx hb dX6_sort_45 (lv_at hl 1 rfl) ?_
        refine lv_bipush (v := 104) hx hb dX6_sort_47 (by decide) ?_
        refine g_cont (va_runV (As := [.int 104]) (rest := []) ⟨hx, hb, hml, hown, hts⟩ (c_X5_diagnose l D cy L ns kk σ ((u).toNatClampNeg) (by rw [g_cl]; omega) (104) (hkA _ (by rw [g_cl]; omega))) (cwV 1 hts gV_X6_59 rfl rfl rfl (by decide +kernel) ⟨Nat.le_of_ble_eq_true rfl, Nat.le_of_ble_eq_true rfl⟩) (g_preV hK hN hG (x := (11, (u).toNatClampNeg, 0)) ⟨(by rw [g_cl]; omega), rfl⟩ (q := (RX5, TX5, 7)) (x_at_11 cy L ns kk ((u).toNatClampNeg) (0) (σ (11, (u).toNatClampNeg, 0))) rfl) rfl rfl hl.1 rfl (lv_room (Nat.le_of_ble_eq_true rfl)) dX6_sort_49 ⟨Nat.zero_le _, Nat.zero_le _⟩) hS (fun H locs hG hS => ?_)
        refine W.eq (g2 := F0 m 52 ls [.int (-(104))]) rfl ?_
        exact s_iret hx hb hr hlk hG hS dX6_sort_52 (by unfold x_sortR; (repeat' split) <;> first | rfl | (exfalso; omega)) (by unfold x_sortM; (repeat' split) <;> first | rfl | (exfalso; omega))
    · refine lv_aload hx hb dX6_sort_24 (lv_at hl 0 rfl) ?_
      refine lv_bipush (v := 102) hx hb dX6_sort_26 (by decide) ?_
      refine g_cont (va_runV (As := [.int 102]) (rest := []) ⟨hx, hb, hml, hown, hts⟩ (c_X5_diagnose l D cy L ns kk σ ((u).toNatClampNeg) (by rw [g_cl]; omega) (102) (hkA _ (by rw [g_cl]; omega))) (cwV 1 hts gV_X6_59 rfl rfl rfl (by decide +kernel) ⟨Nat.le_of_ble_eq_true rfl, Nat.le_of_ble_eq_true rfl⟩) (g_preV hK hN hG (x := (11, (u).toNatClampNeg, 0)) ⟨(by rw [g_cl]; omega), rfl⟩ (q := (RX5, TX5, 7)) (x_at_11 cy L ns kk ((u).toNatClampNeg) (0) (σ (11, (u).toNatClampNeg, 0))) rfl) rfl rfl hl.1 rfl (lv_room (Nat.le_of_ble_eq_true rfl)) dX6_sort_28 ⟨Nat.zero_le _, Nat.zero_le _⟩) hS (fun H locs hG hS => ?_)
      refine W.eq (g2 := F0 m 31 ls [.int (-(102))]) rfl ?_
      exact s_iret hx hb hr hlk hG hS dX6_sort_31 (by unfold x_sortR; (repeat' split) <;> first | rfl | (exfalso; omega)) (by unfold x_sortM; (repeat' split) <;> first | rfl | (exfalso; omega))
  · rw [if_neg c_2_1]
    refine lv_astoreN (lv' := [(5, .null), (0, .ref (L (0, 0, 0))), (1, .int (u)), (2, .int (v)), (3, .int (x)), (4, .int (down))]) hx hb dX6_sort_5 hl (by decide) rfl (fun ls hl => ?_)
    refine lv_aloadN hx hb dX6_sort_7 (lv_at hl 0 rfl) ?_
    refine lv_ifnonnullN hx hb dX6_sort_9 ?_
    refine lv_bipush (v := (-101)) hx hb dX6_sort_12 (by decide) ?_
    exact s_iret hx hb hr hlk hG hS dX6_sort_14 (by unfold x_sortR; (repeat' split) <;> first | rfl | (exfalso; omega)) (by unfold x_sortM; (repeat' split) <;> first | rfl | (exfalso; omega))
set_option maxHeartbeats 4000000 in
set_option maxRecDepth 100000 in
theorem c_X6_scan (l : Launch) (D : va_G) (cy : Nat → ClassId) (L : g_S → Nat) (ns : Nat) (kk : Nat → Nat) (σ : g_S → Nat → Int32) (u x t nn pl : Int32) (hI : x_I ns kk σ) : x_Met l D cy L ns kk yX6_scan (.code yX6_scan cX6_scan 7 (some .int)) 4 σ [.ref (L (0, 0, 0)), .int (u), .int (x), .int (t), .int (nn), .int (pl)] (some (.int (x_scanR σ ns kk u x t nn pl))) (x_scanM σ ns kk u x t nn pl) := by
  refine g_Met.of (by decide) (Nat.le_of_ble_eq_true rfl) ?_
  intro pg e s m below meth c hx hb hr hlk hml hown hts hK hN H locs hG hS ls hl
  have hown : s.vm.findClass RX6 = some m.cls := hown
  have hl : lv_has ls 7 [(0, .ref (L (0, 0, 0))), (1, .int (u)), (2, .int (x)), (3, .int (t)), (4, .int (nn)), (5, .int (pl))] := hl
  obtain ⟨⟨h0, hn⟩, ⟨q0, q40⟩, ⟨hs, h8⟩, hkA, hz4, hzA, hcA, hpA, htA⟩ := hI
  refine lv_aload_n hx hb dX6_scan_0 rfl (lv_at hl 0 rfl) ?_
  refine lv_iload_n hx hb dX6_scan_1 rfl (lv_at hl 1 rfl) ?_
  refine g_cont (va_runV (As := [.int (u)]) (rest := []) ⟨hx, hb, hml, hown, hts⟩ (c_X6_openSession l D cy L ns kk σ (u) hs h8 hz4) (cwV 1 hts gV_X6_51 rfl rfl rfl (by decide +kernel) ⟨Nat.le_of_ble_eq_true rfl, Nat.le_of_ble_eq_true rfl⟩) (g_preV hK hN hG (x := (0, 0, 0)) ⟨rfl, rfl⟩ (q := (RX6, TX6, 4)) (x_at_0 cy L ns kk (0) (0) (σ (0, 0, 0))) rfl) rfl rfl hl.1 rfl (lv_room (Nat.le_of_ble_eq_true rfl)) dX6_scan_2 ⟨Nat.zero_le _, Nat.zero_le _⟩) hS (fun H locs hG hS => ?_)
  refine W.eq (g2 := F0 m 5 ls [(if (0 ≤ (u).toInt ∧ (u).toInt < (ns : Int)) ∧ ¬ (σ (11, (u).toNatClampNeg, 0) 4).toInt = 0 then .ref (L (11, (u).toNatClampNeg, 0)) else .null)]) rfl ?_
  by_cases c_2_1 : (0 ≤ (u).toInt ∧ (u).toInt < (ns : Int)) ∧ ¬ (σ (11, (u).toNatClampNeg, 0) 4).toInt = 0
  · rw [if_pos c_2_1]
    refine lv_astore (lv' := [(6, .ref (L (11, (u).toNatClampNeg, 0))), (0, .ref (L (0, 0, 0))), (1, .int (u)), (2, .int (x)), (3, .int (t)), (4, .int (nn)), (5, .int (pl))]) hx hb dX6_scan_5 hl (by decide) rfl (fun ls hl => ?_)
    refine lv_aload hx hb dX6_scan_7 (lv_at hl 0 rfl) ?_
    refine lv_ifnonnull (tgt := 15) hx hb dX6_scan_9 (by decide) ?_
    refine lv_aload hx hb dX6_scan_15 (lv_at hl 0 rfl) ?_
    refine lv_iconst (v := 2) hx hb dX6_scan_17 (by decide) ?_
    refine g_cont (va_runV (As := [.int 2]) (rest := []) ⟨hx, hb, hml, hown, hts⟩ (c_X5_may l D cy L ns kk σ ((u).toNatClampNeg) (by rw [g_cl]; omega) (2)) (cwV 1 hts gV_X6_114 rfl rfl rfl (by decide +kernel) ⟨Nat.le_of_ble_eq_true rfl, Nat.le_of_ble_eq_true rfl⟩) (g_preV hK hN hG (x := (11, (u).toNatClampNeg, 0)) ⟨(by rw [g_cl]; omega), rfl⟩ (q := (RX5, TX5, 7)) (x_at_11 cy L ns kk ((u).toNatClampNeg) (0) (σ (11, (u).toNatClampNeg, 0))) rfl) rfl rfl hl.1 rfl (lv_room (Nat.le_of_ble_eq_true rfl)) dX6_scan_18 ⟨Nat.zero_le _, Nat.zero_le _⟩) hS (fun H locs hG hS => ?_)
    refine W.eq (g2 := F0 m 21 ls [.int (g_b (¬ (σ (11, (u).toNatClampNeg, 0) 0 &&& (2)).toInt = 0))]) rfl ?_
    refine kz_b_ne (tgt := 32) hx hb dX6_scan_21 (by decide) (fun c_21_2 => ?_) (fun c_21_2 => ?_)
    · refine lv_iload_n hx hb dX6_scan_32 rfl (lv_at hl 3 rfl) ?_
      refine g_cont (va_runS (As := [.int (x)]) (rest := []) ⟨hx, hb, hml, hown, hts⟩ (c_X6_isIndex l D cy L ns kk σ (x)) (cwS 1 hts gS_X6_117 rfl rfl rfl (by decide +kernel) ⟨Nat.le_of_ble_eq_true rfl, Nat.le_of_ble_eq_true rfl⟩) (g_preS hK hN hG) rfl rfl hl.1 rfl (lv_room (Nat.le_of_ble_eq_true rfl)) dX6_scan_33 ⟨Nat.zero_le _, Nat.zero_le _⟩) hS (fun H locs hG hS => ?_)
      refine W.eq (g2 := F0 m 36 ls [.int (g_b (0 ≤ (x).toInt ∧ (x).toInt < 5))]) rfl ?_
      refine kz_b_ne (tgt := 47) hx hb dX6_scan_36 (by decide) (fun c_36_3 => ?_) (fun c_36_3 => ?_)
      · refine lv_iload_n hx hb dX6_scan_47 rfl (lv_at hl 4 rfl) ?_
        refine g_cont (va_runS (As := [.int (t)]) (rest := []) ⟨hx, hb, hml, hown, hts⟩ (c_X6_isTerm l D cy L ns kk σ (t)) (cwS 1 hts gS_X6_128 rfl rfl rfl (by decide +kernel) ⟨Nat.le_of_ble_eq_true rfl, Nat.le_of_ble_eq_true rfl⟩) (g_preS hK hN hG) rfl rfl hl.1 rfl (lv_room (Nat.le_of_ble_eq_true rfl)) dX6_scan_48 ⟨Nat.zero_le _, Nat.zero_le _⟩) hS (fun H locs hG hS => ?_)
        refine W.eq (g2 := F0 m 51 ls [.int (g_b (0 ≤ (t).toInt ∧ (t).toInt ≤ 999))]) rfl ?_
        refine kz_b_eq (tgt := 79) hx hb dX6_scan_51 (by decide) (fun c_51_4 => ?_) (fun c_51_4 => ?_)
        · refine lv_aload hx hb dX6_scan_79 (lv_at hl 0 rfl) ?_
          refine lv_bipush (v := 107) hx hb dX6_scan_81 (by decide) ?_
          refine g_cont (va_runV (As := [.int 107]) (rest := []) ⟨hx, hb, hml, hown, hts⟩ (c_X5_diagnose l D cy L ns kk σ ((u).toNatClampNeg) (by rw [g_cl]; omega) (107) (hkA _ (by rw [g_cl]; omega))) (cwV 1 hts gV_X6_59 rfl rfl rfl (by decide +kernel) ⟨Nat.le_of_ble_eq_true rfl, Nat.le_of_ble_eq_true rfl⟩) (g_preV hK hN hG (x := (11, (u).toNatClampNeg, 0)) ⟨(by rw [g_cl]; omega), rfl⟩ (q := (RX5, TX5, 7)) (x_at_11 cy L ns kk ((u).toNatClampNeg) (0) (σ (11, (u).toNatClampNeg, 0))) rfl) rfl rfl hl.1 rfl (lv_room (Nat.le_of_ble_eq_true rfl)) dX6_scan_83 ⟨Nat.zero_le _, Nat.zero_le _⟩) hS (fun H locs hG hS => ?_)
          refine W.eq (g2 := F0 m 86 ls [.int (-(107))]) rfl ?_
          exact s_iret hx hb hr hlk hG hS dX6_scan_86 (by unfold x_scanR; (repeat' split) <;> first | rfl | (exfalso; omega)) (by unfold x_scanM; (repeat' split) <;> first | rfl | (exfalso; omega))
        · refine lv_iload hx hb dX6_scan_54 (lv_at hl 5 rfl) ?_
          refine lv_iconst (v := 1) hx hb dX6_scan_56 (by decide) ?_
          refine kz_icmp_lt (X := (nn).toInt) (Y := 1) hx hb rfl (by decide) dX6_scan_57 (tgt := 79) (by decide) (fun c_57_5 => ?_) (fun c_57_5 => ?_)
          · refine lv_aload hx hb dX6_scan_79 (lv_at hl 0 rfl) ?_
            refine lv_bipush (v := 107) hx hb dX6_scan_81 (by decide) ?_
            refine g_cont (va_runV (As := [.int 107]) (rest := []) ⟨hx, hb, hml, hown, hts⟩ (c_X5_diagnose l D cy L ns kk σ ((u).toNatClampNeg) (by rw [g_cl]; omega) (107) (hkA _ (by rw [g_cl]; omega))) (cwV 1 hts gV_X6_59 rfl rfl rfl (by decide +kernel) ⟨Nat.le_of_ble_eq_true rfl, Nat.le_of_ble_eq_true rfl⟩) (g_preV hK hN hG (x := (11, (u).toNatClampNeg, 0)) ⟨(by rw [g_cl]; omega), rfl⟩ (q := (RX5, TX5, 7)) (x_at_11 cy L ns kk ((u).toNatClampNeg) (0) (σ (11, (u).toNatClampNeg, 0))) rfl) rfl rfl hl.1 rfl (lv_room (Nat.le_of_ble_eq_true rfl)) dX6_scan_83 ⟨Nat.zero_le _, Nat.zero_le _⟩) hS (fun H locs hG hS => ?_)
            refine W.eq (g2 := F0 m 86 ls [.int (-(107))]) rfl ?_
            exact s_iret hx hb hr hlk hG hS dX6_scan_86 (by unfold x_scanR; (repeat' split) <;> first | rfl | (exfalso; omega)) (by unfold x_scanM; (repeat' split) <;> first | rfl | (exfalso; omega))
          · refine lv_iload hx hb dX6_scan_60 (lv_at hl 5 rfl) ?_
            refine lv_bipush (v := 20) hx hb dX6_scan_62 (by decide) ?_
            refine kz_icmp_gt (X := (nn).toInt) (Y := 20) hx hb rfl (by decide) dX6_scan_64 (tgt := 79) (by decide) (fun c_64_6 => ?_) (fun c_64_6 => ?_)
            · refine lv_aload hx hb dX6_scan_79 (lv_at hl 0 rfl) ?_
              refine lv_bipush (v := 107) hx hb dX6_scan_81 (by decide) ?_
              refine g_cont (va_runV (As := [.int 107]) (rest := []) ⟨hx, hb, hml, hown, hts⟩ (c_X5_diagnose l D cy L ns kk σ ((u).toNatClampNeg) (by rw [g_cl]; omega) (107) (hkA _ (by rw [g_cl]; omega))) (cwV 1 hts gV_X6_59 rfl rfl rfl (by decide +kernel) ⟨Nat.le_of_ble_eq_true rfl, Nat.le_of_ble_eq_true rfl⟩) (g_preV hK hN hG (x := (11, (u).toNatClampNeg, 0)) ⟨(by rw [g_cl]; omega), rfl⟩ (q := (RX5, TX5, 7)) (x_at_11 cy L ns kk ((u).toNatClampNeg) (0) (σ (11, (u).toNatClampNeg, 0))) rfl) rfl rfl hl.1 rfl (lv_room (Nat.le_of_ble_eq_true rfl)) dX6_scan_83 ⟨Nat.zero_le _, Nat.zero_le _⟩) hS (fun H locs hG hS => ?_)
              refine W.eq (g2 := F0 m 86 ls [.int (-(107))]) rfl ?_
              exact s_iret hx hb hr hlk hG hS dX6_scan_86 (by unfold x_scanR; (repeat' split) <;> first | rfl | (exfalso; omega)) (by unfold x_scanM; (repeat' split) <;> first | rfl | (exfalso; omega))
            · refine lv_iload hx hb dX6_scan_67 (lv_at hl 6 rfl) ?_
              refine kz_if_lt (X := (pl).toInt) hx hb rfl dX6_scan_69 (tgt := 79) (by decide) (fun c_69_7 => ?_) (fun c_69_7 => ?_)
              · refine lv_aload hx hb dX6_scan_79 (lv_at hl 0 rfl) ?_
                refine lv_bipush (v := 107) hx hb dX6_scan_81 (by decide) ?_
                refine g_cont (va_runV (As := [.int 107]) (rest := []) ⟨hx, hb, hml, hown, hts⟩ (c_X5_diagnose l D cy L ns kk σ ((u).toNatClampNeg) (by rw [g_cl]; omega) (107) (hkA _ (by rw [g_cl]; omega))) (cwV 1 hts gV_X6_59 rfl rfl rfl (by decide +kernel) ⟨Nat.le_of_ble_eq_true rfl, Nat.le_of_ble_eq_true rfl⟩) (g_preV hK hN hG (x := (11, (u).toNatClampNeg, 0)) ⟨(by rw [g_cl]; omega), rfl⟩ (q := (RX5, TX5, 7)) (x_at_11 cy L ns kk ((u).toNatClampNeg) (0) (σ (11, (u).toNatClampNeg, 0))) rfl) rfl rfl hl.1 rfl (lv_room (Nat.le_of_ble_eq_true rfl)) dX6_scan_83 ⟨Nat.zero_le _, Nat.zero_le _⟩) hS (fun H locs hG hS => ?_)
                refine W.eq (g2 := F0 m 86 ls [.int (-(107))]) rfl ?_
                exact s_iret hx hb hr hlk hG hS dX6_scan_86 (by unfold x_scanR; (repeat' split) <;> first | rfl | (exfalso; omega)) (by unfold x_scanM; (repeat' split) <;> first | rfl | (exfalso; omega))
              · refine lv_iload hx hb dX6_scan_72 (lv_at hl 6 rfl) ?_
                refine lv_bipush (v := 9) hx hb dX6_scan_74 (by decide) ?_
                refine kz_icmp_le (X := (pl).toInt) (Y := 9) hx hb rfl (by decide) dX6_scan_76 (tgt := 87) (by decide) (fun c_76_8 => ?_) (fun c_76_8 => ?_)
                · refine lv_aload_n hx hb dX6_scan_87 rfl (lv_at hl 1 rfl) ?_
                  refine g_get (C := RX6) (T := TX6) (N := 4) (v := .ref (L (1, 0, 0))) hx hb hts inX6g hown hK hG (0, 0, 0) ⟨rfl, rfl⟩ (x_at_0 cy L ns kk (0) (0) (σ (0, 0, 0))) rfl 0 (by decide) fl_X6_10 rfl dX6_scan_88 ?_
                  refine lv_iload_n hx hb dX6_scan_91 rfl (lv_at hl 3 rfl) ?_
                  refine lv_iconst (v := 0) hx hb dX6_scan_92 (by decide) ?_
                  refine g_cont (va_runV (As := [.int (x), .int 0]) (rest := []) ⟨hx, hb, hml, hown, hts⟩ (c_X2_leastTermFrom l D cy L ns kk σ (x) (0) h0 hn) (cwV 2 hts gV_X6_131 rfl rfl rfl (by decide +kernel) ⟨Nat.le_of_ble_eq_true rfl, Nat.le_of_ble_eq_true rfl⟩) (g_preV hK hN hG (x := (1, 0, 0)) ⟨rfl, rfl⟩ (q := (RX2, TX2, 3)) (x_at_1 cy L ns kk (0) (0) (σ (1, 0, 0))) rfl) rfl rfl hl.1 rfl (lv_room (Nat.le_of_ble_eq_true rfl)) dX6_scan_93 ⟨Nat.zero_le _, Nat.zero_le _⟩) hS (fun H locs hG hS => ?_)
                  refine W.eq (g2 := F0 m 96 ls [.int (x_least σ (x) (0))]) rfl ?_
                  refine lv_iconst (v := (-1)) hx hb dX6_scan_96 (by decide) ?_
                  refine kz_icmp_ne (X := (x_least σ (x) (0)).toInt) (Y := (-1)) hx hb rfl (by decide) dX6_scan_97 (tgt := 108) (by decide) (fun c_97_9 => ?_) (fun c_97_9 => ?_)
                  · refine lv_aload hx hb dX6_scan_108 (lv_at hl 0 rfl) ?_
                    refine g_cont (va_runV (As := []) (rest := []) ⟨hx, hb, hml, hown, hts⟩ (c_X5_scannedTerms l D cy L ns kk σ ((u).toNatClampNeg) (by rw [g_cl]; omega)) (cwV 0 hts gV_X6_134 rfl rfl rfl (by decide +kernel) ⟨Nat.le_of_ble_eq_true rfl, Nat.le_of_ble_eq_true rfl⟩) (g_preV hK hN hG (x := (11, (u).toNatClampNeg, 0)) ⟨(by rw [g_cl]; omega), rfl⟩ (q := (RX5, TX5, 7)) (x_at_11 cy L ns kk ((u).toNatClampNeg) (0) (σ (11, (u).toNatClampNeg, 0))) rfl) rfl rfl hl.1 rfl (lv_room (Nat.le_of_ble_eq_true rfl)) dX6_scan_110 ⟨Nat.zero_le _, Nat.zero_le _⟩) hS (fun H locs hG hS => ?_)
                    refine W.eq (g2 := F0 m 113 ls [.ref (L (17, (u).toNatClampNeg, 0))]) rfl ?_
                    refine lv_aload_n hx hb dX6_scan_113 rfl (lv_at hl 1 rfl) ?_
                    refine g_get (C := RX6) (T := TX6) (N := 4) (v := .ref (L (1, 0, 0))) hx hb hts inX6g hown hK hG (0, 0, 0) ⟨rfl, rfl⟩ (x_at_0 cy L ns kk (0) (0) (σ (0, 0, 0))) rfl 0 (by decide) fl_X6_10 rfl dX6_scan_114 ?_
                    refine lv_iload_n hx hb dX6_scan_117 rfl (lv_at hl 3 rfl) ?_
                    refine lv_aload_n hx hb dX6_scan_118 rfl (lv_at hl 1 rfl) ?_
                    refine lv_iload_n hx hb dX6_scan_119 rfl (lv_at hl 3 rfl) ?_
                    refine lv_iload_n hx hb dX6_scan_120 rfl (lv_at hl 4 rfl) ?_
                    refine lv_iload hx hb dX6_scan_121 (lv_at hl 6 rfl) ?_
                    refine g_cont (va_runV (As := [.int (x), .int (t), .int (pl)]) (rest := [.int (x), .ref (L (1, 0, 0)), .ref (L (17, (u).toNatClampNeg, 0))]) ⟨hx, hb, hml, hown, hts⟩ (c_X6_stepBack l D cy L ns kk σ (x) (t) (pl) h0 hn (by omega)) (cwV 3 hts gV_X6_138 rfl rfl rfl (by decide +kernel) ⟨Nat.le_of_ble_eq_true rfl, Nat.le_of_ble_eq_true rfl⟩) (g_preV hK hN hG (x := (0, 0, 0)) ⟨rfl, rfl⟩ (q := (RX6, TX6, 4)) (x_at_0 cy L ns kk (0) (0) (σ (0, 0, 0))) rfl) rfl rfl hl.1 rfl (lv_room (Nat.le_of_ble_eq_true rfl)) dX6_scan_123 ⟨Nat.zero_le _, Nat.zero_le _⟩) hS (fun H locs hG hS => ?_)
                    refine W.eq (g2 := F0 m 126 ls [.int (x_backGo σ (x) (pl).toInt.toNat (t)), .int (x), .ref (L (1, 0, 0)), .ref (L (17, (u).toNatClampNeg, 0))]) rfl ?_
                    refine lv_iload hx hb dX6_scan_126 (lv_at hl 5 rfl) ?_
                    refine g_cont (va_runV (As := [.ref (L (1, 0, 0)), .int (x), .int (x_backGo σ (x) (pl).toInt.toNat (t)), .int (nn)]) (rest := []) ⟨hx, hb, hml, hown, hts⟩ (c_X4_fill l D cy L ns kk σ ((u).toNatClampNeg) (by rw [g_cl]; omega) (x) (x_backGo σ (x) (pl).toInt.toNat (t)) (nn) h0 hn) (cwV 4 hts gV_X6_141 rfl rfl rfl (by decide +kernel) ⟨Nat.le_of_ble_eq_true rfl, Nat.le_of_ble_eq_true rfl⟩) (g_preV hK hN hG (x := (17, (u).toNatClampNeg, 0)) ⟨(by rw [g_cl]; omega), rfl⟩ (q := (RX4, TX4, 3)) (x_at_17 cy L ns kk ((u).toNatClampNeg) (0) (σ (17, (u).toNatClampNeg, 0))) rfl) rfl rfl hl.1 rfl (lv_room (Nat.le_of_ble_eq_true rfl)) dX6_scan_128 ⟨Nat.zero_le _, Nat.zero_le _⟩) hS (fun H locs hG hS => ?_)
                    refine W.eq (g2 := F0 m 131 ls [.int ((x_fillM σ ((u).toNatClampNeg) (x) (x_backGo σ (x) (pl).toInt.toNat (t)) (nn)) (17, (u).toNatClampNeg, 0) 2)]) rfl ?_
                    exact s_iret hx hb hr hlk hG hS dX6_scan_131 (by unfold x_scanR; (repeat' split) <;> first | rfl | (exfalso; omega)) (by unfold x_scanM; (repeat' split) <;> first | rfl | (exfalso; omega))
                  · refine lv_aload hx hb dX6_scan_100 (lv_at hl 0 rfl) ?_
                    refine lv_bipush (v := 108) hx hb dX6_scan_102 (by decide) ?_
                    refine g_cont (va_runV (As := [.int 108]) (rest := []) ⟨hx, hb, hml, hown, hts⟩ (c_X5_diagnose l D cy L ns kk σ ((u).toNatClampNeg) (by rw [g_cl]; omega) (108) (hkA _ (by rw [g_cl]; omega))) (cwV 1 hts gV_X6_59 rfl rfl rfl (by decide +kernel) ⟨Nat.le_of_ble_eq_true rfl, Nat.le_of_ble_eq_true rfl⟩) (g_preV hK hN hG (x := (11, (u).toNatClampNeg, 0)) ⟨(by rw [g_cl]; omega), rfl⟩ (q := (RX5, TX5, 7)) (x_at_11 cy L ns kk ((u).toNatClampNeg) (0) (σ (11, (u).toNatClampNeg, 0))) rfl) rfl rfl hl.1 rfl (lv_room (Nat.le_of_ble_eq_true rfl)) dX6_scan_104 ⟨Nat.zero_le _, Nat.zero_le _⟩) hS (fun H locs hG hS => ?_)
                    refine W.eq (g2 := F0 m 107 ls [.int (-(108))]) rfl ?_
                    exact s_iret hx hb hr hlk hG hS dX6_scan_107 (by unfold x_scanR; (repeat' split) <;> first | rfl | (exfalso; omega)) (by unfold x_scanM; (repeat' split) <;> first | rfl | (exfalso; omega))
                · refine lv_aload hx hb dX6_scan_79 (lv_at hl 0 rfl) ?_
                  refine lv_bipush (v := 107) hx hb dX6_scan_81 (by decide) ?_
                  refine g_cont (va_runV (As := [.int 107]) (rest := []) ⟨hx, hb, hml, hown, hts⟩ (c_X5_diagnose l D cy L ns kk σ ((u).toNatClampNeg) (by rw [g_cl]; omega) (107) (hkA _ (by rw [g_cl]; omega))) (cwV 1 hts gV_X6_59 rfl rfl rfl (by decide +kernel) ⟨Nat.le_of_ble_eq_true rfl, Nat.le_of_ble_eq_true rfl⟩) (g_preV hK hN hG (x := (11, (u).toNatClampNeg, 0)) ⟨(by rw [g_cl]; omega), rfl⟩ (q := (RX5, TX5, 7)) (x_at_11 cy L ns kk ((u).toNatClampNeg) (0) (σ (11, (u).toNatClampNeg, 0))) rfl) rfl rfl hl.1 rfl (lv_room (Nat.le_of_ble_eq_true rfl)) dX6_scan_83 ⟨Nat.zero_le _, Nat.zero_le _⟩) hS (fun H locs hG hS => ?_)
                  refine W.eq (g2 := F0 m 86 ls [.int (-(107))]) rfl ?_
                  exact s_iret hx hb hr hlk hG hS dX6_scan_86 (by unfold x_scanR; (repeat' split) <;> first | rfl | (exfalso; omega)) (by unfold x_scanM; (repeat' split) <;> first | rfl | (exfalso; omega))
      · refine lv_aload hx hb dX6_scan_39 (lv_at hl 0 rfl) ?_
        refine lv_bipush (v := 106) hx hb dX6_scan_41 (by decide) ?_
        refine g_cont (va_runV (As := [.int 106]) (rest := []) ⟨hx, hb, hml, hown, hts⟩ (c_X5_diagnose l D cy L ns kk σ ((u).toNatClampNeg) (by rw [g_cl]; omega) (106) (hkA _ (by rw [g_cl]; omega))) (cwV 1 hts gV_X6_59 rfl rfl rfl (by decide +kernel) ⟨Nat.le_of_ble_eq_true rfl, Nat.le_of_ble_eq_true rfl⟩) (g_preV hK hN hG (x := (11, (u).toNatClampNeg, 0)) ⟨(by rw [g_cl]; omega), rfl⟩ (q := (RX5, TX5, 7)) (x_at_11 cy L ns kk ((u).toNatClampNeg) (0) (σ (11, (u).toNatClampNeg, 0))) rfl) rfl rfl hl.1 rfl (lv_room (Nat.le_of_ble_eq_true rfl)) dX6_scan_43 ⟨Nat.zero_le _, Nat.zero_le _⟩) hS (fun H locs hG hS => ?_)
        refine W.eq (g2 := F0 m 46 ls [.int (-(106))]) rfl ?_
        exact s_iret hx hb hr hlk hG hS dX6_scan_46 (by unfold x_scanR; (repeat' split) <;> first | rfl | (exfalso; omega)) (by unfold x_scanM; (repeat' split) <;> first | rfl | (exfalso; omega))
    · refine lv_aload hx hb dX6_scan_24 (lv_at hl 0 rfl) ?_
      refine lv_bipush (v := 102) hx hb dX6_scan_26 (by decide) ?_
      refine g_cont (va_runV (As := [.int 102]) (rest := []) ⟨hx, hb, hml, hown, hts⟩ (c_X5_diagnose l D cy L ns kk σ ((u).toNatClampNeg) (by rw [g_cl]; omega) (102) (hkA _ (by rw [g_cl]; omega))) (cwV 1 hts gV_X6_59 rfl rfl rfl (by decide +kernel) ⟨Nat.le_of_ble_eq_true rfl, Nat.le_of_ble_eq_true rfl⟩) (g_preV hK hN hG (x := (11, (u).toNatClampNeg, 0)) ⟨(by rw [g_cl]; omega), rfl⟩ (q := (RX5, TX5, 7)) (x_at_11 cy L ns kk ((u).toNatClampNeg) (0) (σ (11, (u).toNatClampNeg, 0))) rfl) rfl rfl hl.1 rfl (lv_room (Nat.le_of_ble_eq_true rfl)) dX6_scan_28 ⟨Nat.zero_le _, Nat.zero_le _⟩) hS (fun H locs hG hS => ?_)
      refine W.eq (g2 := F0 m 31 ls [.int (-(102))]) rfl ?_
      exact s_iret hx hb hr hlk hG hS dX6_scan_31 (by unfold x_scanR; (repeat' split) <;> first | rfl | (exfalso; omega)) (by unfold x_scanM; (repeat' split) <;> first | rfl | (exfalso; omega))
  · rw [if_neg c_2_1]
    refine lv_astoreN (lv' := [(6, .null), (0, .ref (L (0, 0, 0))), (1, .int (u)), (2, .int (x)), (3, .int (t)), (4, .int (nn)), (5, .int (pl))]) hx hb dX6_scan_5 hl (by decide) rfl (fun ls hl => ?_)
    refine lv_aloadN hx hb dX6_scan_7 (lv_at hl 0 rfl) ?_
    refine lv_ifnonnullN hx hb dX6_scan_9 ?_
    refine lv_bipush (v := (-101)) hx hb dX6_scan_12 (by decide) ?_
    exact s_iret hx hb hr hlk hG hS dX6_scan_14 (by unfold x_scanR; (repeat' split) <;> first | rfl | (exfalso; omega)) (by unfold x_scanM; (repeat' split) <;> first | rfl | (exfalso; omega))
set_option maxHeartbeats 4000000 in
set_option maxRecDepth 100000 in
theorem c_X6_drop (l : Launch) (D : va_G) (cy : Nat → ClassId) (L : g_S → Nat) (ns : Nat) (kk : Nat → Nat) (σ : g_S → Nat → Int32) (u v : Int32) (hI : x_I ns kk σ) : x_Met l D cy L ns kk yX6_drop (.code yX6_drop cX6_drop 5 (some .int)) 3 σ [.ref (L (0, 0, 0)), .int (u), .int (v)] (some (.int (x_dropR σ ns kk u v))) (x_dropM σ ns kk u v) := by
  refine g_Met.of (by decide) (Nat.le_of_ble_eq_true rfl) ?_
  intro pg e s m below meth c hx hb hr hlk hml hown hts hK hN H locs hG hS ls hl
  have hown : s.vm.findClass RX6 = some m.cls := hown
  have hl : lv_has ls 5 [(0, .ref (L (0, 0, 0))), (1, .int (u)), (2, .int (v))] := hl
  obtain ⟨⟨h0, hn⟩, ⟨q0, q40⟩, ⟨hs, h8⟩, hkA, hz4, hzA, hcA, hpA, htA⟩ := hI
  refine lv_aload_n hx hb dX6_drop_0 rfl (lv_at hl 0 rfl) ?_
  refine lv_iload_n hx hb dX6_drop_1 rfl (lv_at hl 1 rfl) ?_
  refine g_cont (va_runV (As := [.int (u)]) (rest := []) ⟨hx, hb, hml, hown, hts⟩ (c_X6_openSession l D cy L ns kk σ (u) hs h8 hz4) (cwV 1 hts gV_X6_51 rfl rfl rfl (by decide +kernel) ⟨Nat.le_of_ble_eq_true rfl, Nat.le_of_ble_eq_true rfl⟩) (g_preV hK hN hG (x := (0, 0, 0)) ⟨rfl, rfl⟩ (q := (RX6, TX6, 4)) (x_at_0 cy L ns kk (0) (0) (σ (0, 0, 0))) rfl) rfl rfl hl.1 rfl (lv_room (Nat.le_of_ble_eq_true rfl)) dX6_drop_2 ⟨Nat.zero_le _, Nat.zero_le _⟩) hS (fun H locs hG hS => ?_)
  refine W.eq (g2 := F0 m 5 ls [(if (0 ≤ (u).toInt ∧ (u).toInt < (ns : Int)) ∧ ¬ (σ (11, (u).toNatClampNeg, 0) 4).toInt = 0 then .ref (L (11, (u).toNatClampNeg, 0)) else .null)]) rfl ?_
  by_cases c_2_1 : (0 ≤ (u).toInt ∧ (u).toInt < (ns : Int)) ∧ ¬ (σ (11, (u).toNatClampNeg, 0) 4).toInt = 0
  · rw [if_pos c_2_1]
    refine lv_astore_n (lv' := [(3, .ref (L (11, (u).toNatClampNeg, 0))), (0, .ref (L (0, 0, 0))), (1, .int (u)), (2, .int (v))]) hx hb dX6_drop_5 rfl hl (by decide) rfl (fun ls hl => ?_)
    refine lv_aload_n hx hb dX6_drop_6 rfl (lv_at hl 0 rfl) ?_
    refine lv_ifnonnull (tgt := 13) hx hb dX6_drop_7 (by decide) ?_
    refine lv_aload_n hx hb dX6_drop_13 rfl (lv_at hl 0 rfl) ?_
    refine lv_iload_n hx hb dX6_drop_14 rfl (lv_at hl 3 rfl) ?_
    refine g_cont (va_runV (As := [.int (v)]) (rest := []) ⟨hx, hb, hml, hown, hts⟩ (c_X5_madeSet l D cy L ns kk σ ((u).toNatClampNeg) (by rw [g_cl]; omega) (v) (hkA _ (by rw [g_cl]; omega)) (hzA _ (by rw [g_cl]; omega))) (cwV 1 hts gV_X6_83 rfl rfl rfl (by decide +kernel) ⟨Nat.le_of_ble_eq_true rfl, Nat.le_of_ble_eq_true rfl⟩) (g_preV hK hN hG (x := (11, (u).toNatClampNeg, 0)) ⟨(by rw [g_cl]; omega), rfl⟩ (q := (RX5, TX5, 7)) (x_at_11 cy L ns kk ((u).toNatClampNeg) (0) (σ (11, (u).toNatClampNeg, 0))) rfl) rfl rfl hl.1 rfl (lv_room (Nat.le_of_ble_eq_true rfl)) dX6_drop_15 ⟨Nat.zero_le _, Nat.zero_le _⟩) hS (fun H locs hG hS => ?_)
    refine W.eq (g2 := F0 m 18 ls [(if (0 ≤ (v).toInt ∧ (v).toInt < ((kk (u).toNatClampNeg : Nat) : Int)) ∧ ¬ (σ (18, (u).toNatClampNeg, (v).toNatClampNeg) 2).toInt = 0 then .ref (L (18, (u).toNatClampNeg, (v).toNatClampNeg)) else .null)]) rfl ?_
    by_cases c_15_2 : (0 ≤ (v).toInt ∧ (v).toInt < ((kk (u).toNatClampNeg : Nat) : Int)) ∧ ¬ (σ (18, (u).toNatClampNeg, (v).toNatClampNeg) 2).toInt = 0
    · rw [if_pos c_15_2]
      have hc9 := hcA (u).toNatClampNeg (by rw [g_cl]; omega) (v).toNatClampNeg (by rw [g_cl]; omega)
      refine lv_astore (lv' := [(4, .ref (L (18, (u).toNatClampNeg, (v).toNatClampNeg))), (3, .ref (L (11, (u).toNatClampNeg, 0))), (0, .ref (L (0, 0, 0))), (1, .int (u)), (2, .int (v))]) hx hb dX6_drop_18 hl (by decide) rfl (fun ls hl => ?_)
      refine lv_aload hx hb dX6_drop_20 (lv_at hl 0 rfl) ?_
      refine lv_ifnonnull (tgt := 32) hx hb dX6_drop_22 (by decide) ?_
      refine lv_aload hx hb dX6_drop_32 (lv_at hl 0 rfl) ?_
      refine g_cont (va_runV (As := []) (rest := []) ⟨hx, hb, hml, hown, hts⟩ (c_X3_forget l D cy L ns kk σ ((u).toNatClampNeg) ((v).toNatClampNeg) (by rw [g_cl]; omega) (by rw [g_cl]; omega)) (cwV 0 hts gV_X6_158 rfl rfl rfl (by decide +kernel) ⟨Nat.le_of_ble_eq_true rfl, Nat.le_of_ble_eq_true rfl⟩) (g_preV hK hN hG (x := (18, (u).toNatClampNeg, (v).toNatClampNeg)) ⟨(by rw [g_cl]; omega), (by rw [g_cl]; omega)⟩ (q := (RX3, TX3, 3)) (x_at_18 cy L ns kk ((u).toNatClampNeg) ((v).toNatClampNeg) (σ (18, (u).toNatClampNeg, (v).toNatClampNeg))) rfl) rfl rfl hl.1 rfl (lv_room (Nat.le_of_ble_eq_true rfl)) dX6_drop_34 ⟨Nat.zero_le _, Nat.zero_le _⟩) hS (fun H locs hG hS => ?_)
      refine W.eq (g2 := F0 m 37 ls []) rfl ?_
      refine lv_iconst (v := 1) hx hb dX6_drop_37 (by decide) ?_
      exact s_iret hx hb hr hlk hG hS dX6_drop_38 (by unfold x_dropR; (repeat' split) <;> first | rfl | (exfalso; omega)) (by unfold x_dropM; (repeat' split) <;> first | rfl | (exfalso; omega))
    · rw [if_neg c_15_2]
      refine lv_astoreN (lv' := [(4, .null), (3, .ref (L (11, (u).toNatClampNeg, 0))), (0, .ref (L (0, 0, 0))), (1, .int (u)), (2, .int (v))]) hx hb dX6_drop_18 hl (by decide) rfl (fun ls hl => ?_)
      refine lv_aloadN hx hb dX6_drop_20 (lv_at hl 0 rfl) ?_
      refine lv_ifnonnullN hx hb dX6_drop_22 ?_
      refine lv_aload_n hx hb dX6_drop_25 rfl (lv_at hl 1 rfl) ?_
      refine lv_bipush (v := 104) hx hb dX6_drop_26 (by decide) ?_
      refine g_cont (va_runV (As := [.int 104]) (rest := []) ⟨hx, hb, hml, hown, hts⟩ (c_X5_diagnose l D cy L ns kk σ ((u).toNatClampNeg) (by rw [g_cl]; omega) (104) (hkA _ (by rw [g_cl]; omega))) (cwV 1 hts gV_X6_59 rfl rfl rfl (by decide +kernel) ⟨Nat.le_of_ble_eq_true rfl, Nat.le_of_ble_eq_true rfl⟩) (g_preV hK hN hG (x := (11, (u).toNatClampNeg, 0)) ⟨(by rw [g_cl]; omega), rfl⟩ (q := (RX5, TX5, 7)) (x_at_11 cy L ns kk ((u).toNatClampNeg) (0) (σ (11, (u).toNatClampNeg, 0))) rfl) rfl rfl hl.1 rfl (lv_room (Nat.le_of_ble_eq_true rfl)) dX6_drop_28 ⟨Nat.zero_le _, Nat.zero_le _⟩) hS (fun H locs hG hS => ?_)
      refine W.eq (g2 := F0 m 31 ls [.int (-(104))]) rfl ?_
      exact s_iret hx hb hr hlk hG hS dX6_drop_31 (by unfold x_dropR; (repeat' split) <;> first | rfl | (exfalso; omega)) (by unfold x_dropM; (repeat' split) <;> first | rfl | (exfalso; omega))
  · rw [if_neg c_2_1]
    refine lv_astore_nN (lv' := [(3, .null), (0, .ref (L (0, 0, 0))), (1, .int (u)), (2, .int (v))]) hx hb dX6_drop_5 rfl hl (by decide) rfl (fun ls hl => ?_)
    refine lv_aload_nN hx hb dX6_drop_6 rfl (lv_at hl 0 rfl) ?_
    refine lv_ifnonnullN hx hb dX6_drop_7 ?_
    refine lv_bipush (v := (-101)) hx hb dX6_drop_10 (by decide) ?_
    exact s_iret hx hb hr hlk hG hS dX6_drop_12 (by unfold x_dropR; (repeat' split) <;> first | rfl | (exfalso; omega)) (by unfold x_dropM; (repeat' split) <;> first | rfl | (exfalso; omega))
set_option maxHeartbeats 4000000 in
set_option maxRecDepth 100000 in
theorem c_X6_close (l : Launch) (D : va_G) (cy : Nat → ClassId) (L : g_S → Nat) (ns : Nat) (kk : Nat → Nat) (σ : g_S → Nat → Int32) (u : Int32) (hI : x_I ns kk σ) : x_Met l D cy L ns kk yX6_close (.code yX6_close cX6_close 4 (some .int)) 2 σ [.ref (L (0, 0, 0)), .int (u)] (some (.int (x_closeR σ ns kk u))) (x_closeM σ ns kk u) := by
  refine g_Met.of (by decide) (Nat.le_of_ble_eq_true rfl) ?_
  intro pg e s m below meth c hx hb hr hlk hml hown hts hK hN H locs hG hS ls hl
  have hown : s.vm.findClass RX6 = some m.cls := hown
  have hl : lv_has ls 4 [(0, .ref (L (0, 0, 0))), (1, .int (u))] := hl
  obtain ⟨⟨h0, hn⟩, ⟨q0, q40⟩, ⟨hs, h8⟩, hkA, hz4, hzA, hcA, hpA, htA⟩ := hI
  refine lv_aload_n hx hb dX6_close_0 rfl (lv_at hl 0 rfl) ?_
  refine lv_iload_n hx hb dX6_close_1 rfl (lv_at hl 1 rfl) ?_
  refine g_cont (va_runV (As := [.int (u)]) (rest := []) ⟨hx, hb, hml, hown, hts⟩ (c_X6_openSession l D cy L ns kk σ (u) hs h8 hz4) (cwV 1 hts gV_X6_51 rfl rfl rfl (by decide +kernel) ⟨Nat.le_of_ble_eq_true rfl, Nat.le_of_ble_eq_true rfl⟩) (g_preV hK hN hG (x := (0, 0, 0)) ⟨rfl, rfl⟩ (q := (RX6, TX6, 4)) (x_at_0 cy L ns kk (0) (0) (σ (0, 0, 0))) rfl) rfl rfl hl.1 rfl (lv_room (Nat.le_of_ble_eq_true rfl)) dX6_close_2 ⟨Nat.zero_le _, Nat.zero_le _⟩) hS (fun H locs hG hS => ?_)
  refine W.eq (g2 := F0 m 5 ls [(if (0 ≤ (u).toInt ∧ (u).toInt < (ns : Int)) ∧ ¬ (σ (11, (u).toNatClampNeg, 0) 4).toInt = 0 then .ref (L (11, (u).toNatClampNeg, 0)) else .null)]) rfl ?_
  by_cases c_2_1 : (0 ≤ (u).toInt ∧ (u).toInt < (ns : Int)) ∧ ¬ (σ (11, (u).toNatClampNeg, 0) 4).toInt = 0
  · rw [if_pos c_2_1]
    refine lv_astore_n (lv' := [(2, .ref (L (11, (u).toNatClampNeg, 0))), (0, .ref (L (0, 0, 0))), (1, .int (u))]) hx hb dX6_close_5 rfl hl (by decide) rfl (fun ls hl => ?_)
    refine lv_aload_n hx hb dX6_close_6 rfl (lv_at hl 0 rfl) ?_
    refine lv_ifnonnull (tgt := 13) hx hb dX6_close_7 (by decide) ?_
    refine lv_aload_n hx hb dX6_close_13 rfl (lv_at hl 0 rfl) ?_
    refine g_cont (va_runV (As := []) (rest := []) ⟨hx, hb, hml, hown, hts⟩ (c_X5_setCount l D cy L ns kk σ ((u).toNatClampNeg) (by rw [g_cl]; omega) (hkA _ (by rw [g_cl]; omega)) (hzA _ (by rw [g_cl]; omega))) (cwV 0 hts gV_X6_161 rfl rfl rfl (by decide +kernel) ⟨Nat.le_of_ble_eq_true rfl, Nat.le_of_ble_eq_true rfl⟩) (g_preV hK hN hG (x := (11, (u).toNatClampNeg, 0)) ⟨(by rw [g_cl]; omega), rfl⟩ (q := (RX5, TX5, 7)) (x_at_11 cy L ns kk ((u).toNatClampNeg) (0) (σ (11, (u).toNatClampNeg, 0))) rfl) rfl rfl hl.1 rfl (lv_room (Nat.le_of_ble_eq_true rfl)) dX6_close_14 ⟨Nat.zero_le _, Nat.zero_le _⟩) hS (fun H locs hG hS => ?_)
    refine W.eq (g2 := F0 m 17 ls [.int (x_setsGo σ ((u).toNatClampNeg) (kk ((u).toNatClampNeg)) 0 0)]) rfl ?_
    refine lv_istore_n (lv' := [(3, .int (x_setsGo σ ((u).toNatClampNeg) (kk ((u).toNatClampNeg)) 0 0)), (2, .ref (L (11, (u).toNatClampNeg, 0))), (0, .ref (L (0, 0, 0))), (1, .int (u))]) hx hb dX6_close_17 rfl hl (by decide) rfl (fun ls hl => ?_)
    refine lv_aload_n hx hb dX6_close_18 rfl (lv_at hl 1 rfl) ?_
    refine g_cont (va_runV (As := []) (rest := []) ⟨hx, hb, hml, hown, hts⟩ (c_X5_shut l D cy L ns kk σ ((u).toNatClampNeg) (by rw [g_cl]; omega) (hkA _ (by rw [g_cl]; omega))) (cwV 0 hts gV_X6_164 rfl rfl rfl (by decide +kernel) ⟨Nat.le_of_ble_eq_true rfl, Nat.le_of_ble_eq_true rfl⟩) (g_preV hK hN hG (x := (11, (u).toNatClampNeg, 0)) ⟨(by rw [g_cl]; omega), rfl⟩ (q := (RX5, TX5, 7)) (x_at_11 cy L ns kk ((u).toNatClampNeg) (0) (σ (11, (u).toNatClampNeg, 0))) rfl) rfl rfl hl.1 rfl (lv_room (Nat.le_of_ble_eq_true rfl)) dX6_close_19 ⟨Nat.zero_le _, Nat.zero_le _⟩) hS (fun H locs hG hS => ?_)
    refine W.eq (g2 := F0 m 22 ls []) rfl ?_
    refine lv_iload_n hx hb dX6_close_22 rfl (lv_at hl 0 rfl) ?_
    exact s_iret hx hb hr hlk hG hS dX6_close_23 (by unfold x_closeR; (repeat' split) <;> first | rfl | (exfalso; omega)) (by unfold x_closeM; (repeat' split) <;> first | rfl | (exfalso; omega))
  · rw [if_neg c_2_1]
    refine lv_astore_nN (lv' := [(2, .null), (0, .ref (L (0, 0, 0))), (1, .int (u))]) hx hb dX6_close_5 rfl hl (by decide) rfl (fun ls hl => ?_)
    refine lv_aload_nN hx hb dX6_close_6 rfl (lv_at hl 0 rfl) ?_
    refine lv_ifnonnullN hx hb dX6_close_7 ?_
    refine lv_bipush (v := (-101)) hx hb dX6_close_10 (by decide) ?_
    exact s_iret hx hb hr hlk hG hS dX6_close_12 (by unfold x_closeR; (repeat' split) <;> first | rfl | (exfalso; omega)) (by unfold x_closeM; (repeat' split) <;> first | rfl | (exfalso; omega))
set_option maxHeartbeats 4000000 in
set_option maxRecDepth 100000 in
theorem c_X6_state (l : Launch) (D : va_G) (cy : Nat → ClassId) (L : g_S → Nat) (ns : Nat) (kk : Nat → Nat) (σ : g_S → Nat → Int32) (u w : Int32) (hI : x_I ns kk σ) : x_Met l D cy L ns kk yX6_state (.code yX6_state cX6_state 4 (some .int)) 3 σ [.ref (L (0, 0, 0)), .int (u), .int (w)] (some (.int (x_stateR σ ns kk u w))) σ := by
  refine g_Met.of (by decide) (Nat.le_of_ble_eq_true rfl) ?_
  intro pg e s m below meth c hx hb hr hlk hml hown hts hK hN H locs hG hS ls hl
  have hown : s.vm.findClass RX6 = some m.cls := hown
  have hl : lv_has ls 4 [(0, .ref (L (0, 0, 0))), (1, .int (u)), (2, .int (w))] := hl
  obtain ⟨⟨h0, hn⟩, ⟨q0, q40⟩, ⟨hs, h8⟩, hkA, hz4, hzA, hcA, hpA, htA⟩ := hI
  refine lv_iload_n hx hb dX6_state_0 rfl (lv_at hl 1 rfl) ?_
  refine kz_if_lt (X := (u).toInt) hx hb rfl dX6_state_1 (tgt := 19) (by decide) (fun c_1_1 => ?_) (fun c_1_1 => ?_)
  · refine lv_iconst (v := (-1)) hx hb dX6_state_19 (by decide) ?_
    exact s_iret hx hb hr hlk hG hS dX6_state_20 (by unfold x_stateR; (repeat' split) <;> first | rfl | (exfalso; omega)) rfl
  · refine lv_iload_n hx hb dX6_state_4 rfl (lv_at hl 1 rfl) ?_
    refine lv_bipush (v := 8) hx hb dX6_state_5 (by decide) ?_
    refine kz_icmp_ge (X := (u).toInt) (Y := 8) hx hb rfl (by decide) dX6_state_7 (tgt := 19) (by decide) (fun c_7_2 => ?_) (fun c_7_2 => ?_)
    · refine lv_iconst (v := (-1)) hx hb dX6_state_19 (by decide) ?_
      exact s_iret hx hb hr hlk hG hS dX6_state_20 (by unfold x_stateR; (repeat' split) <;> first | rfl | (exfalso; omega)) rfl
    · refine lv_iload_n hx hb dX6_state_10 rfl (lv_at hl 2 rfl) ?_
      refine kz_if_lt (X := (w).toInt) hx hb rfl dX6_state_11 (tgt := 19) (by decide) (fun c_11_3 => ?_) (fun c_11_3 => ?_)
      · refine lv_iconst (v := (-1)) hx hb dX6_state_19 (by decide) ?_
        exact s_iret hx hb hr hlk hG hS dX6_state_20 (by unfold x_stateR; (repeat' split) <;> first | rfl | (exfalso; omega)) rfl
      · refine lv_iload_n hx hb dX6_state_14 rfl (lv_at hl 2 rfl) ?_
        refine lv_iconst (v := 3) hx hb dX6_state_15 (by decide) ?_
        refine kz_icmp_le (X := (w).toInt) (Y := 3) hx hb rfl (by decide) dX6_state_16 (tgt := 21) (by decide) (fun c_16_4 => ?_) (fun c_16_4 => ?_)
        · refine lv_aload_n hx hb dX6_state_21 rfl (lv_at hl 0 rfl) ?_
          refine lv_iload_n hx hb dX6_state_22 rfl (lv_at hl 1 rfl) ?_
          refine g_cont (va_runV (As := [.int (u)]) (rest := []) ⟨hx, hb, hml, hown, hts⟩ (c_X6_everOpened l D cy L ns kk σ (u) hs h8) (cwV 1 hts gV_X6_106 rfl rfl rfl (by decide +kernel) ⟨Nat.le_of_ble_eq_true rfl, Nat.le_of_ble_eq_true rfl⟩) (g_preV hK hN hG (x := (0, 0, 0)) ⟨rfl, rfl⟩ (q := (RX6, TX6, 4)) (x_at_0 cy L ns kk (0) (0) (σ (0, 0, 0))) rfl) rfl rfl hl.1 rfl (lv_room (Nat.le_of_ble_eq_true rfl)) dX6_state_23 ⟨Nat.zero_le _, Nat.zero_le _⟩) hS (fun H locs hG hS => ?_)
          refine W.eq (g2 := F0 m 26 ls [(if 0 ≤ (u).toInt ∧ (u).toInt < (ns : Int) then .ref (L (11, (u).toNatClampNeg, 0)) else .null)]) rfl ?_
          by_cases c_23_5 : 0 ≤ (u).toInt ∧ (u).toInt < (ns : Int)
          · rw [if_pos c_23_5]
            refine lv_astore_n (lv' := [(3, .ref (L (11, (u).toNatClampNeg, 0))), (0, .ref (L (0, 0, 0))), (1, .int (u)), (2, .int (w))]) hx hb dX6_state_26 rfl hl (by decide) rfl (fun ls hl => ?_)
            refine lv_aload_n hx hb dX6_state_27 rfl (lv_at hl 0 rfl) ?_
            refine lv_ifnonnull (tgt := 35) hx hb dX6_state_28 (by decide) ?_
            refine lv_aload_n hx hb dX6_state_35 rfl (lv_at hl 0 rfl) ?_
            refine lv_iload_n hx hb dX6_state_36 rfl (lv_at hl 3 rfl) ?_
            refine g_cont (va_runV (As := [.int (w)]) (rest := []) ⟨hx, hb, hml, hown, hts⟩ (c_X5_tell l D cy L ns kk σ ((u).toNatClampNeg) (by rw [g_cl]; omega) (w) (hkA _ (by rw [g_cl]; omega)) (hzA _ (by rw [g_cl]; omega))) (cwV 1 hts gV_X6_167 rfl rfl rfl (by decide +kernel) ⟨Nat.le_of_ble_eq_true rfl, Nat.le_of_ble_eq_true rfl⟩) (g_preV hK hN hG (x := (11, (u).toNatClampNeg, 0)) ⟨(by rw [g_cl]; omega), rfl⟩ (q := (RX5, TX5, 7)) (x_at_11 cy L ns kk ((u).toNatClampNeg) (0) (σ (11, (u).toNatClampNeg, 0))) rfl) rfl rfl hl.1 rfl (lv_room (Nat.le_of_ble_eq_true rfl)) dX6_state_37 ⟨Nat.zero_le _, Nat.zero_le _⟩) hS (fun H locs hG hS => ?_)
            refine W.eq (g2 := F0 m 40 ls [.int (x_sTell σ (kk ((u).toNatClampNeg)) ((u).toNatClampNeg) (w))]) rfl ?_
            exact s_iret hx hb hr hlk hG hS dX6_state_40 (by unfold x_stateR; (repeat' split) <;> first | rfl | (exfalso; omega)) rfl
          · rw [if_neg c_23_5]
            refine lv_astore_nN (lv' := [(3, .null), (0, .ref (L (0, 0, 0))), (1, .int (u)), (2, .int (w))]) hx hb dX6_state_26 rfl hl (by decide) rfl (fun ls hl => ?_)
            refine lv_aload_nN hx hb dX6_state_27 rfl (lv_at hl 0 rfl) ?_
            refine lv_ifnonnullN hx hb dX6_state_28 ?_
            refine lv_iconst (v := 0) hx hb dX6_state_31 (by decide) ?_
            refine lv_goto (tgt := 40) hx hb dX6_state_32 (by decide) ?_
            exact s_iret hx hb hr hlk hG hS dX6_state_40 (by unfold x_stateR; (repeat' split) <;> first | rfl | (exfalso; omega)) rfl
        · refine lv_iconst (v := (-1)) hx hb dX6_state_19 (by decide) ?_
          exact s_iret hx hb hr hlk hG hS dX6_state_20 (by unfold x_stateR; (repeat' split) <;> first | rfl | (exfalso; omega)) rfl
