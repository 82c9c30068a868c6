/-! From a list of cells to the world of Θ. -/
theorem va_P.mem {D : va_G} {cl : List vw_C} {ws ws' : va_W} {H : Heap} (h : va_P D cl ws H) (hm : ∀ q ∈ ws', q ∈ ws) : va_P D cl ws' H := by
  intro k q hk
  obtain ⟨i, hi⟩ := List.getElem?_of_mem (hm q (List.mem_of_getElem? hk))
  exact h i q hi
theorem cell_extO {cA : ClassId} {n : Nat} {f g : Nat → Option Nat} (h : ∀ j, j < n → f j = g j) : vp_cell cA (n, .inr (.inr (.inr (.inr f)))) = vp_cell cA (n, .inr (.inr (.inr (.inr g)))) := by
  show arrV cA n (fun j => va_rf (f j)) = arrV cA n (fun j => va_rf (g j))
  unfold arrV
  have e : (Array.ofFn (n := n) fun j => va_rf (f j.val)) = Array.ofFn (n := n) fun j => va_rf (g j.val) := by
    congr 1
    funext j
    rw [h j.val j.isLt]
  rw [e]
/-- the world of Θ out of any list that has its cells, up to what a row holds beyond its length -/
theorem cW_P {Θ : cTH} {G : GS} {ws : va_W} {H : Heap} (h : va_P (tD Θ) vwCl ws H) (hm : ∀ x ∈ ids G.2.2.1, (∃ e : va_E, (tR Θ x.1 x.2, e) ∈ ws ∧ (e = cellS Θ x.1 x.2 (G.1 x.1 x.2) (G.2.1 x.1 x.2) G.2.2 ∨ ∃ (cA : ClassId) (n : Nat) (f g : Nat → Option Nat), e = .inl (cA, n, .inr (.inr (.inr (.inr f)))) ∧ cellS Θ x.1 x.2 (G.1 x.1 x.2) (G.2.1 x.1 x.2) G.2.2 = .inl (cA, n, .inr (.inr (.inr (.inr g)))) ∧ ∀ j, j < n → f j = g j))) : va_P (tD Θ) vwCl (cW Θ G) H := by
  intro k q hk
  obtain ⟨x, hx, rfl⟩ := List.mem_map.mp (List.mem_of_getElem? hk)
  obtain ⟨e, he, h9⟩ := hm x hx
  obtain ⟨i, hi⟩ := List.getElem?_of_mem he
  rcases h9 with rfl | ⟨cA, n, f, g, rfl, h2, h3⟩
  · exact h i _ hi
  · have h4 : H[tR Θ x.1 x.2]? = some (vp_cell cA (n, .inr (.inr (.inr (.inr f))))) := h i _ hi
    show va_at _ _ (tR Θ x.1 x.2, cellS Θ x.1 x.2 (G.1 x.1 x.2) (G.2.1 x.1 x.2) G.2.2) H
    rw [h2]
    show H[tR Θ x.1 x.2]? = some (vp_cell cA (n, .inr (.inr (.inr (.inr g)))))
    rw [← cell_extO h3]
    exact h4
/-- the addresses are apart -/
theorem cW_D {Θ : cTH} {G : GS} (h1 : ∀ (i j : Nat) (x y : Nat × Nat), (ids G.2.2.1)[i]? = some x → (ids G.2.2.1)[j]? = some y → tR Θ x.1 x.2 = tR Θ y.1 y.2 → i = j) (h2 : ∀ x ∈ ids G.2.2.1, tA Θ (tR Θ x.1 x.2)) : va_D (tA Θ) (cW Θ G) := by
  refine ⟨fun i j p q hi hj he => ?_, fun k q hk => ?_⟩
  · unfold cW at hi hj
    rw [List.getElem?_map] at hi hj
    obtain ⟨x, hx, rfl⟩ := Option.map_eq_some_iff.mp hi
    obtain ⟨y, hy, rfl⟩ := Option.map_eq_some_iff.mp hj
    exact h1 i j x y hx hy he
  · obtain ⟨x, hx, rfl⟩ := List.mem_map.mp (List.mem_of_getElem? hk)
    exact h2 x hx
