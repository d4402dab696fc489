/-! cells that say the same -/
def g_same (e e' : va_E) : Prop := e = e' ∨ ∃ (cA : ClassId) (n : Nat) (f f' : Nat → Option Nat), e = .inl (cA, n, .inr (.inr (.inr (.inr f)))) ∧ e' = .inl (cA, n, .inr (.inr (.inr (.inr f')))) ∧ ∀ j, j < n → f j = f' j
theorem g_same.at {D : va_G} {cl : List vw_C} {a : Nat} {e e' : va_E} {H : Heap} (h : g_same e e') (h1 : va_at D cl (a, e') H) : va_at D cl (a, e) H := by
  rcases h with h | ⟨cA, n, f, f', rfl, rfl, h⟩
  · rw [h]; exact h1
  · have h1 : H[a]? = some (vp_cell _ _) := h1
    show H[a]? = some (vp_cell _ _)
    rw [h1, vp_cell_q, vp_cell_q]
    exact congrArg some (h_arrV fun j hj => by rw [h j hj])
theorem g_H.congrA {D : va_G} {cl : List vw_C} {dom dom' : g_S → Prop} {L : g_S → Nat} {V V' : g_S → va_E} {H : Heap} (h : g_H D cl dom L V H) (hd : ∀ x, dom' x → dom x) (hV : ∀ x, dom' x → g_same (V' x) (V x)) : g_H D cl dom' L V' H := ⟨fun x hx => (hV x hx).at (h.1 x (hd x hx)), fun x y hx hy => h.2 x y (hd x hx) (hd y hy)⟩
theorem g_same.refs {cA : ClassId} {n : Nat} {f f' : Nat → Option Nat} (h : ∀ j, j < n → f j = f' j) : g_same (.inl (cA, n, .inr (.inr (.inr (.inr f))))) (.inl (cA, n, .inr (.inr (.inr (.inr f'))))) := Or.inr ⟨cA, n, f, f', rfl, rfl, h⟩
/-- the class's cells do not change where the world grows -/
theorem x_K_move {cy : Nat → ClassId} {L L' : g_S → Nat} {ns ns' : Nat} {kk kk' : Nat → Nat} (hL : ∀ y, x_dom ns kk y → L' y = L y) (hk : ∀ i, i < ns → kk' i = kk i) (z : g_S) (hz : x_dom ns kk z) (h9 : z.1 ≠ 9) (r : Nat → Int32) : g_same (x_K cy L' ns' kk' z r) (x_K cy L ns kk z r) := by
  have h0 : ∀ k, k < 10 → L' (k, 0, 0) = L (k, 0, 0) := fun k hk => hL _ (by
    rcases (show k = 0 ∨ k = 1 ∨ k = 2 ∨ k = 3 ∨ k = 4 ∨ k = 5 ∨ k = 6 ∨ k = 7 ∨ k = 8 ∨ k = 9 by omega) with rfl | rfl | rfl | rfl | rfl | rfl | rfl | rfl | rfl | rfl <;> exact ⟨rfl, rfl⟩)
  match z, hz with
  | (0, _, _), _ => exact Or.inl (by simp only [x_K, h0 1 (by omega), h0 2 (by omega), h0 9 (by omega)])
  | (1, _, _), _ => exact Or.inl (by simp only [x_K, h0 3 (by omega), h0 4 (by omega)])
  | (2, _, _), _ => exact Or.inl (by simp only [x_K, h0 5 (by omega), h0 6 (by omega), h0 7 (by omega), h0 8 (by omega)])
  | (3, _, _), _ => exact Or.inl rfl
  | (4, _, _), _ => exact g_same.refs fun j hj => by rw [hL (10, j, 0) ⟨hj, rfl⟩]
  | (5, _, _), _ => exact Or.inl rfl
  | (6, _, _), _ => exact Or.inl rfl
  | (7, _, _), _ => exact Or.inl rfl
  | (8, _, _), _ => exact Or.inl rfl
  | (9, _, _), _ => exact absurd rfl h9
  | (10, _, _), _ => exact Or.inl rfl
  | (11, i, _), h => exact Or.inl (by simp only [x_K, hL (12, i, 0) ⟨h.1, rfl⟩, hL (13, i, 0) ⟨h.1, rfl⟩, hL (17, i, 0) ⟨h.1, rfl⟩])
  | (12, i, _), h =>
    show g_same (.inl (cy 3, kk' i, _)) (.inl (cy 3, kk i, _))
    rw [hk i h.1]
    exact g_same.refs fun j hj => by rw [hL (18, i, j) ⟨h.1, hj⟩]
  | (13, i, _), h => exact Or.inl (by simp only [x_K, hL (14, i, 0) ⟨h.1, rfl⟩, hL (15, i, 0) ⟨h.1, rfl⟩, hL (16, i, 0) ⟨h.1, rfl⟩])
  | (14, _, _), _ => exact Or.inl rfl
  | (15, _, _), _ => exact Or.inl rfl
  | (16, _, _), _ => exact Or.inl rfl
  | (17, i, _), h => exact Or.inl (by simp only [x_K, hL (20, i, 0) ⟨h.1, rfl⟩, hL (21, i, 0) ⟨h.1, rfl⟩])
  | (18, i, j), h => exact Or.inl (by simp only [x_K, hL (19, i, j) ⟨h.1, h.2⟩])
  | (19, _, _), _ => exact Or.inl rfl
  | (20, _, _), _ => exact Or.inl rfl
  | (n + 21, _, _), _ => exact Or.inl rfl
/-- a session is opened: what its rows hold -/
def x_new (p q : Int32) (k : Nat) : Nat → Int32 := fun j => if k = 11 then (if j = 0 then p else if j = 4 then 1 else 0) else if k = 13 then (if j = 0 then q else 0) else 0
def x_sesM (σ : g_S → Nat → Int32) (ns : Nat) (p q : Int32) : g_S → Nat → Int32 := fun z => if 11 ≤ z.1 ∧ z.2.1 = ns then x_new p q z.1 else if z = (0, 0, 0) then upd (σ z) 3 (σ z 3 + 1) else σ z
def x_kk (kk : Nat → Nat) (ns : Nat) (p : Int32) : Nat → Nat := fun i => if i = ns then (if (p &&& 4).toInt = 0 then 1 else 5) else kk i
theorem x_dom_succ {ns : Nat} {kk kk' : Nat → Nat} (hk : ∀ i, i < ns → kk' i = kk i) {x : g_S} (h : x_dom (ns + 1) kk' x) : x_dom ns kk x ∨ x = (11, ns, 0) ∨ x = (12, ns, 0) ∨ x = (13, ns, 0) ∨ x = (14, ns, 0) ∨ x = (15, ns, 0) ∨ x = (16, ns, 0) ∨ x = (17, ns, 0) ∨ x = (20, ns, 0) ∨ x = (21, ns, 0) ∨ (∃ j, j < kk' ns ∧ x = (18, ns, j)) ∨ ∃ j, j < kk' ns ∧ x = (19, ns, j) := by
  have two : ∀ i, i < ns + 1 → i < ns ∨ i = ns := fun i hi => by omega
  match x, h with
  | (0, i, j), h => exact Or.inl h
  | (1, i, j), h => exact Or.inl h
  | (2, i, j), h => exact Or.inl h
  | (3, i, j), h => exact Or.inl h
  | (4, i, j), h => exact Or.inl h
  | (5, i, j), h => exact Or.inl h
  | (6, i, j), h => exact Or.inl h
  | (7, i, j), h => exact Or.inl h
  | (8, i, j), h => exact Or.inl h
  | (9, i, j), h => exact Or.inl h
  | (10, i, j), h => exact Or.inl h
  | (11, i, j), ⟨h1, h2⟩ => rcases two i h1 with h | rfl; exact Or.inl ⟨h, h2⟩; subst h2; simp
  | (12, i, j), ⟨h1, h2⟩ => rcases two i h1 with h | rfl; exact Or.inl ⟨h, h2⟩; subst h2; simp
  | (13, i, j), ⟨h1, h2⟩ => rcases two i h1 with h | rfl; exact Or.inl ⟨h, h2⟩; subst h2; simp
  | (14, i, j), ⟨h1, h2⟩ => rcases two i h1 with h | rfl; exact Or.inl ⟨h, h2⟩; subst h2; simp
  | (15, i, j), ⟨h1, h2⟩ => rcases two i h1 with h | rfl; exact Or.inl ⟨h, h2⟩; subst h2; simp
  | (16, i, j), ⟨h1, h2⟩ => rcases two i h1 with h | rfl; exact Or.inl ⟨h, h2⟩; subst h2; simp
  | (17, i, j), ⟨h1, h2⟩ => rcases two i h1 with h | rfl; exact Or.inl ⟨h, h2⟩; subst h2; simp
  | (18, i, j), ⟨h1, h2⟩ => rcases two i h1 with h | rfl; exact Or.inl ⟨h, by rw [← hk i h]; exact h2⟩; simp [h2]
  | (19, i, j), ⟨h1, h2⟩ => rcases two i h1 with h | rfl; exact Or.inl ⟨h, by rw [← hk i h]; exact h2⟩; simp [h2]
  | (20, i, j), ⟨h1, h2⟩ => rcases two i h1 with h | rfl; exact Or.inl ⟨h, h2⟩; subst h2; simp
  | (21, i, j), ⟨h1, h2⟩ => rcases two i h1 with h | rfl; exact Or.inl ⟨h, h2⟩; subst h2; simp
theorem x_notin {ns : Nat} {kk : Nat → Nat} (k j : Nat) (hk : 11 ≤ k) : ¬ x_dom ns kk (k, ns, j) := by
  intro h
  match k, h with
  | 11, h => exact Nat.lt_irrefl _ h.1
  | 12, h => exact Nat.lt_irrefl _ h.1
  | 13, h => exact Nat.lt_irrefl _ h.1
  | 14, h => exact Nat.lt_irrefl _ h.1
  | 15, h => exact Nat.lt_irrefl _ h.1
  | 16, h => exact Nat.lt_irrefl _ h.1
  | 17, h => exact Nat.lt_irrefl _ h.1
  | 18, h => exact Nat.lt_irrefl _ h.1
  | 19, h => exact Nat.lt_irrefl _ h.1
  | 20, h => exact Nat.lt_irrefl _ h.1
  | 21, h => exact Nat.lt_irrefl _ h.1
  | (n + 22), h => exact h
theorem x_sesM_old {σ : g_S → Nat → Int32} {ns : Nat} {kk : Nat → Nat} {p q : Int32} {z : g_S} (hz : x_dom ns kk z) (h0 : z ≠ (0, 0, 0)) : x_sesM σ ns p q z = σ z := by
  unfold x_sesM
  rw [if_neg, if_neg h0]
  intro ⟨h1, h2⟩
  obtain ⟨a, i, j⟩ := z
  have h2 : i = ns := h2
  subst h2
  exact x_notin a j h1 hz
