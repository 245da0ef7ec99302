/-! two cells of a world taken out; arrays that agree below their length -/
theorem out1 {α : Type} {q : α} : ∀ {l : List α} {i : Nat}, l[i]? = some q → l.Perm (q :: l.eraseIdx i)
  | [], i, h => by simp at h
  | x :: l, 0, h => by
    have : x = q := by simpa using h
    subst this
    exact List.Perm.refl _
  | x :: l, i + 1, h => by
    have h1 : l[i]? = some q := by simpa using h
    exact (List.Perm.cons x (out1 h1)).trans (List.Perm.swap q x _)
theorem two_out {α : Type} {l : List α} {i j : Nat} {q r : α} (hi : l[i]? = some q) (hj : l[j]? = some r) (hij : i ≠ j) : ∃ R : List α, l.Perm ([q, r] ++ R) ∧ ∀ q' : α, ([q', r] ++ R).Perm (l.set i q') := by
  have hil : i < l.length := (List.getElem?_eq_some_iff.mp hi).1
  have hjl : j < l.length := (List.getElem?_eq_some_iff.mp hj).1
  have hr : r ∈ l.eraseIdx i := by
    refine List.mem_eraseIdx_iff_getElem?.mpr ⟨j, fun h => hij h.symm, hj⟩
  obtain ⟨a, b, hab⟩ := List.append_of_mem hr
  refine ⟨a ++ b, ?_, fun q' => ?_⟩
  · have h1 := out1 hi
    rw [hab] at h1
    exact h1.trans (List.Perm.cons q List.perm_middle)
  · have h1 := out1 (List.getElem?_set_self (a := q') hil)
    rw [List.eraseIdx_set_eq, hab] at h1
    exact (List.Perm.cons q' (List.perm_middle (a := r) (l₁ := a) (l₂ := b)).symm).trans h1.symm
theorem arr_same {c : ClassId} {n : Nat} {f g : Nat → Int32} (h : ∀ k, k < n → f k = g k) : vp_cell c (n, .inl f) = vp_cell c (n, .inl g) := by
  show arrV c n (fun j => .int (f j)) = arrV c n (fun j => .int (g j))
  unfold arrV
  congr 1
  apply Array.ext
  · simp
  · intro i h1 h2
    simp only [Array.getElem_ofFn]
    rw [h i (by simpa using h1)]
/-- behind a copy of a whole row -/
theorem cpy_P {D : va_G} {cl : List vw_C} {d c : Nat} {cI : ClassId} {n : Nat} {g h : Nat → Int32} {R : va_W} {H : Heap} (hP : va_P D cl ((d, .inl (cI, n, .inl (va_cpy h g 0 0 n))) :: R) H) : va_P D cl ((d, .inl (cI, n, .inl h)) :: R) H := by
  refine vP_mem.mpr (fun q hq => ?_)
  rcases List.mem_cons.mp hq with rfl | hq
  · have := vP_mem.mp hP _ (List.mem_cons_self)
    show H[d]? = some (vp_cell cI (n, .inl h))
    have h1 : H[d]? = some (vp_cell cI (n, .inl (va_cpy h g 0 0 n))) := this
    rw [h1, arr_same]
    intro k hk
    unfold va_cpy
    rw [if_pos (by omega)]
    congr 1
    omega
  · exact vP_mem.mp hP q (List.mem_cons_of_mem _ hq)
/-- va_D asks only for the addresses -/
theorem vD_ad {A : Nat → Prop} {ws ws' : va_W} (h : va_D A ws) (e : ws'.map (fun q => q.1) = ws.map (fun q => q.1)) : va_D A ws' := by
  rw [vD_iff] at h ⊢
  have h1 : (ws.map (fun q => q.1)).Pairwise (fun a b => a ≠ b) := List.pairwise_map.mpr h.1
  refine ⟨List.pairwise_map.mp (e ▸ h1), fun q hq => ?_⟩
  have h2 : q.1 ∈ ws.map (fun q => q.1) := e ▸ List.mem_map.mpr ⟨q, hq, rfl⟩
  obtain ⟨r, hr, e2⟩ := List.mem_map.mp h2
  rw [← e2]
  exact h.2 r hr
