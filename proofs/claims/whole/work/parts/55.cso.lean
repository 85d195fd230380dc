-- a part of a world, by its places
section CUTS
variable {D : va_G} {cl : List vw_C} {ws wc : va_W} {A : Nat → Prop} {H H1 : Heap} {is : List Nat}
theorem cut_at (hC : is.map (fun i => ws[i]?) = wc.map some) {k : Nat} {q : Nat × va_E} (h : wc[k]? = some q) : ∃ i, is[k]? = some i ∧ ws[i]? = some q := by
  have h1 : (is.map (fun i => ws[i]?))[k]? = some (some q) := by rw [hC, List.getElem?_map, h]; rfl
  rw [List.getElem?_map] at h1
  cases hi : is[k]? with
  | none => rw [hi] at h1; cases h1
  | some i => rw [hi] at h1; exact ⟨i, rfl, Option.some.inj h1⟩
theorem cut_P (hP : va_P D cl ws H) (hC : is.map (fun i => ws[i]?) = wc.map some) : va_P D cl wc H := fun k q h => by
  obtain ⟨i, -, h2⟩ := cut_at hC h
  exact hP i q h2
theorem cut_D (hD : va_D A ws) (hC : is.map (fun i => ws[i]?) = wc.map some) (hnd : ∀ k k' i : Nat, is[k]? = some i → is[k']? = some i → k = k') : va_D A wc := by
  refine ⟨fun k k' p q h h' e => ?_, fun k q h => ?_⟩
  · obtain ⟨i, g1, g2⟩ := cut_at hC h
    obtain ⟨i', g3, g4⟩ := cut_at hC h'
    have hi := hD.1 i i' p q g2 g4 e
    subst hi
    exact hnd k k' i g1 g3
  · obtain ⟨i, -, g2⟩ := cut_at hC h
    exact hD.2 i q g2
theorem cut_kept (hP : va_P D cl ws H) (hD : va_D A ws) (hC : is.map (fun i => ws[i]?) = wc.map some) (hk : ∀ q : Nat, q < H.size → ¬ va_A wc H.size q → H1[q]? = H[q]?) {k : Nat} {q : Nat × va_E} (h : ws[k]? = some q) (hn : k ∉ is) : H1[q.1]? = H[q.1]? := by
  have hl := va_at.lt (hP k q h)
  refine hk q.1 hl (fun hz => ?_)
  rcases hz with ⟨i, e, hz⟩ | hz
  · obtain ⟨i', g1, g2⟩ := cut_at hC hz
    have hi := hD.1 k i' q (q.1, e) h g2 rfl
    exact hn (by rw [hi]; exact List.mem_of_getElem? g1)
  · omega
end CUTS
-- the sorter and one row, out of the bench
abbrev cset_so (S : CSt) (j : Nat) (T : SSt) : CSt := (cn S, ckd S, cln S, cbU (cbt S) j (sf T), cro S, cna S, sb T, sm T, ccn S, crs S)
abbrev cSo (S : CSt) (j : Nat) : SSt := (cbt S j, cbe S, cme S)
section CSO
variable {dC : Nat → ClassId} {dI : Nat → Nat → Nat} {D : va_G} {ad : Nat → Nat} {o rw so ba ma : Nat} {cR cJ : ClassId} {S : CSt} {s U : State} {H H1 : Heap} {A : Nat → Prop} {H0 : Heap} {locs : List Loc} {j : Nat} {T : SSt}
theorem cSo_C (hj : j < cn S) : [2, 3, 4, 5 + j, 5 + cn S + j].map (fun i => (cWs ad o rw so ba ma cR cJ S)[i]?) = (sWs ad (cro S j) (ckd S j) (cna S j) (cln S j) so ba ma cJ (cSo S j)).map some := by
  show [_, _, _, (cWs ad o rw so ba ma cR cJ S)[5 + j]?, (cWs ad o rw so ba ma cR cJ S)[5 + cn S + j]?] = _
  rw [cP_obj hj, cP_arr hj]
  rfl
theorem cSo_nd (hj : j < cn S) : ∀ k k' i : Nat, [2, 3, 4, 5 + j, 5 + cn S + j][k]? = some i → [2, 3, 4, 5 + j, 5 + cn S + j][k']? = some i → k = k' := by
  intro k k' i h h'
  rcases k with _ | _ | _ | _ | _ | k <;> rcases k' with _ | _ | _ | _ | _ | k' <;> simp at h h' <;> omega
theorem sB_of (hw : cH dC dI ad o rw so ba ma cR cJ S s H) (hD : va_D A (cWs ad o rw so ba ma cR cJ S)) (hk : kA ad (va_A (sWs ad (cro S j) (ckd S j) (cna S j) (cln S j) so ba ma cJ (cSo S j)) H.size) s H) (hj : j < cn S) (hU : U.heap = H) (hW : s.WarmedH U.vm) : sB dC dI ad (cro S j) (ckd S j) (cna S j) (cln S j) so ba ma cJ H.size (cSo S j) U := by
  refine ⟨by rw [hU], by rw [hU]; exact cut_P hw.1 (cSo_C hj), (va_K.moved hW.alike hw.2).sub [1] rfl, (cut_D hD (cSo_C hj) (cSo_nd hj)).weaken (fun _ _ _ _ => trivial), by rw [hU]; exact kA.moved hW.alike hk⟩
theorem cSo_free (hD : va_D A (cWs ad o rw so ba ma cR cJ S)) (hS : va_S A H0 H locs) (hA : ∀ q, H0.size ≤ q → A q) (hj : j < cn S) : ∀ q, va_A (sWs ad (cro S j) (ckd S j) (cna S j) (cln S j) so ba ma cJ (cSo S j)) H.size q → A q := va_free hD hS hA _ (cSo_C hj)
theorem cSo_rv (hw : cH dC dI ad o rw so ba ma cR cJ S s H) : ∃ cell : Cell, H[so]? = some cell ∧ cell.vm.isStatics = false ∧ s.vm.findClass RX4 = some cell.cls := va_recv hw.2 hw.1 (ci := 3) (q0 := 2) rfl rfl
theorem cSo_same (hj : j < cn S) {k : Nat} {q : Nat × va_E} (h : (cWs ad o rw so ba ma cR cJ (cset_so S j T))[k]? = some q) : ∃ q0, (cWs ad o rw so ba ma cR cJ S)[k]? = some q0 ∧ q0.1 = q.1 := by
  rcases cP_cases h with ⟨h1, h2⟩ | ⟨i, h1, rfl, rfl⟩ | ⟨i, h1, rfl, rfl⟩
  · rw [cP_fix h1]
    rcases k with _ | _ | _ | _ | _ | k
    · cases h2; exact ⟨_, rfl, rfl⟩
    · cases h2; exact ⟨_, rfl, rfl⟩
    · cases h2; exact ⟨_, rfl, rfl⟩
    · cases h2; exact ⟨_, rfl, rfl⟩
    · cases h2; exact ⟨_, rfl, rfl⟩
    · omega
  · exact ⟨_, cP_obj (S := S) h1, rfl⟩
  · exact ⟨_, cP_arr (S := S) h1, rfl⟩
theorem cW_so (hP : va_P D vwCl (cWs ad o rw so ba ma cR cJ S) H) (hD : va_D A (cWs ad o rw so ba ma cR cJ S)) (hj : j < cn S) (hP1 : va_P D vwCl (sWs ad (cro S j) (ckd S j) (cna S j) (cln S j) so ba ma cJ T) H1) (hk : ∀ q : Nat, q < H.size → ¬ va_A (sWs ad (cro S j) (ckd S j) (cna S j) (cln S j) so ba ma cJ (cSo S j)) H.size q → H1[q]? = H[q]?) : va_P D vwCl (cWs ad o rw so ba ma cR cJ (cset_so S j T)) H1 ∧ va_D A (cWs ad o rw so ba ma cR cJ (cset_so S j T)) := by
  have kp := fun {k : Nat} {q : Nat × va_E} (h : (cWs ad o rw so ba ma cR cJ S)[k]? = some q) (hn : k ∉ [2, 3, 4, 5 + j, 5 + cn S + j]) => cut_kept hP hD (cSo_C hj) hk h hn
  constructor
  · intro k q h
    rcases cP_cases h with ⟨h1, h2⟩ | ⟨i, h1, rfl, rfl⟩ | ⟨i, h1, rfl, rfl⟩
    · rcases k with _ | _ | _ | _ | _ | k
      · cases h2
        exact (hP 0 _ (cP_fix (by omega))).kept (kp (k := 0) (cP_fix (by omega)) (by simp; omega))
      · cases h2
        exact (hP 1 _ (cP_fix (by omega))).kept (kp (k := 1) (cP_fix (by omega)) (by simp; omega))
      · cases h2; exact hP1 0 _ rfl
      · cases h2; exact hP1 1 _ rfl
      · cases h2; exact hP1 2 _ rfl
      · omega
    · have h1 : i < cn S := h1
      by_cases e : i = j
      · subst e; exact hP1 3 _ rfl
      · exact (hP (5 + i) _ (cP_obj (S := S) h1)).kept (kp (cP_obj (S := S) h1) (by simp; omega))
    · have h1 : i < cn S := h1
      show va_at D vwCl (cna S i, .inl (cJ, cln S i, .inr (.inl (cbU (cbt S) j (sf T) i)))) H1
      unfold cbU
      by_cases e : i = j
      · subst e
        rw [if_pos rfl]
        exact hP1 4 _ rfl
      · rw [if_neg e]
        exact (hP (5 + cn S + i) _ (cP_arr (S := S) h1)).kept (kp (cP_arr (S := S) h1) (by simp; omega))
  · refine ⟨fun i i' p p' h h' e => ?_, fun k q h => ?_⟩
    · obtain ⟨q0, g1, g2⟩ := cSo_same hj h
      obtain ⟨q1, g3, g4⟩ := cSo_same hj h'
      exact hD.1 i i' q0 q1 g1 g3 (by rw [g2, g4]; exact e)
    · obtain ⟨q0, g1, g2⟩ := cSo_same hj h
      rw [← g2]
      exact hD.2 k q0 g1
end CSO
