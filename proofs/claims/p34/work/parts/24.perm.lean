theorem wd_perm {Γ : zG} {lo : zId → Nat} {S : zSt} {X X1 : va_W} {H : Heap} (hp : X.Perm X1) (h : Wd Γ lo S X H) : Wd Γ lo S X1 H := by
  obtain ⟨h1, h2, h3, ws, hP, hD, hn⟩ := h
  have hp2 : (X1 ++ ws).Perm (X ++ ws) := hp.symm.append_right ws
  have mem : ∀ (k : Nat) (q : Nat × va_E), (X1 ++ ws)[k]? = some q → ∃ j, (X ++ ws)[j]? = some q := fun k q hk => List.mem_iff_getElem?.mp (hp2.mem_iff.mp (List.mem_of_getElem? hk))
  have nd : ((X ++ ws).map Prod.fst).Nodup := by
    rw [List.nodup_iff_pairwise_ne, List.pairwise_iff_getElem]
    intro i j hi hj hij e
    simp only [List.getElem_map, List.length_map] at hi hj e
    have := hD.1 i j _ _ (List.getElem?_eq_getElem hi) (List.getElem?_eq_getElem hj) e
    omega
  have nd1 : ((X1 ++ ws).map Prod.fst).Nodup := (hp2.map Prod.fst).nodup_iff.mpr nd
  refine ⟨h1, h2, h3, ws, fun k q hk => ?_, ⟨fun i j a b hi hj e => ?_, fun k q hk => ?_⟩, hn⟩
  · obtain ⟨j, hj⟩ := mem k q hk
    exact hP j q hj
  · rw [List.nodup_iff_pairwise_ne, List.pairwise_iff_getElem] at nd1
    obtain ⟨li, ei⟩ := List.getElem?_eq_some_iff.mp hi
    obtain ⟨lj, ej⟩ := List.getElem?_eq_some_iff.mp hj
    rcases Nat.lt_trichotomy i j with h | h | h
    · have z := nd1 i j (by simpa using li) (by simpa using lj) h
      rw [List.getElem_map, List.getElem_map, ei, ej] at z
      exact absurd e z
    · exact h
    · have z := nd1 j i (by simpa using lj) (by simpa using li) h
      rw [List.getElem_map, List.getElem_map, ei, ej] at z
      exact absurd e.symm z
  · obtain ⟨j, hj⟩ := mem k q hk
    exact hD.2 j q hj
