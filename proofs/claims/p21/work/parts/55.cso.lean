-- a part of a world, by its places
section CUTS
variable {D : va_G} {cl : List vw_C} {ws wc : va_W} {A : Nat → Prop} {H H1 : Heap} {is : List Nat}
theorem cut_at (hC : is.map (fun i => ws[i]?) = wc.map some) {k : Nat} {q : Nat × va_E} (h : wc[k]? = some q) : ∃ i, is[k]? = some i ∧ ws[i]? = some q := by
  have h1 : (is.map (fun i => ws[i]?))[k]? = some (some q) := by rw [hC, List.getElem?_map, h]; rfl
  rw [List.getElem?_map] at h1
  cases hi : is[k]? with
  | none => rw [hi] at h1; cases h1
  | some i => rw [hi] at h1; exact ⟨i, rfl, Option.some.inj h1⟩
theorem cut_P (hP : va_P D cl ws H) (hC : is.map (fun i => ws[i]?) = wc.map some) : va_P D cl wc H := fun k q h => by
  obtain ⟨i, -, h2⟩ := cut_at hC h
  exact hP i q h2
theorem cut_D (hD : va_D A ws) (hC : is.map (fun i => ws[i]?) = wc.map some) (hnd : ∀ k k' i : Nat, is[k]? = some i → is[k']? = some i → k = k') : va_D A wc := by
  refine ⟨fun k k' p q h h' e => ?_, fun k q h => ?_⟩
  · obtain ⟨i, g1, g2⟩ := cut_at hC h
    obtain ⟨i', g3, g4⟩ := cut_at hC h'
    have hi := hD.1 i i' p q g2 g4 e
    subst hi
    exact hnd k k' i g1 g3
  · obtain ⟨i, -, g2⟩ := cut_at hC h
    exact hD.2 i q g2
theorem cut_kept (hP : va_P D cl ws H) (hD : va_D A ws) (hC : is.map (fun i => ws[i]?) = wc.map some) (hk : ∀ q : Nat, q < H.size → ¬ va_A wc H.size q → H1[q]? = H[q]?) {k : Nat} {q : Nat × va_E} (h : ws[k]? = some q) (hn : k ∉ is) : H1[q.1]? = H[q.1]? := by
  have hl := va_at.lt (hP k q h)
  refine hk q.1 hl (fun hz => ?_)
  rcases hz with ⟨i, e, hz⟩ | hz
  · obtain ⟨i', g1, g2⟩ := cut_at hC hz
    have hi := hD.1 k i' q (q.1, e) h g2 rfl
    exact hn (by rw [hi]; exact List.mem_of_getElem? g1)
  · omega
end CUTS
-- the sorter and one row, out of the bench
