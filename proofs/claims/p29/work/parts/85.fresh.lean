/-! now's row is the model's row; the fresh objects -/
section PX
variable {D : va_G} {cl : List vw_C} {cI cC cW : ClassId} {h : Nat → Nat} {W : Nat → va_H} {S q V : Nat → Int32} {z : Int32} {U : Nat → Int32} {y : Int32} {I N M G : Nat → Int32} {Z Z' : Nat → Nat → Int32} {H : Heap} {Rr : va_W} {A : Nat → Prop} {b : Int} {a : Nat → Nat}
theorem at_arr {d n : Nat} {f g : Nat → Int32} (e : ∀ k, k < n → f k = g k) (h : va_at D cl (d, .inl (cI, n, .inl f)) H) : va_at D cl (d, .inl (cI, n, .inl g)) H := by
  show H[d]? = some (vp_cell cI (n, .inl g))
  have h1 : H[d]? = some (vp_cell cI (n, .inl f)) := h
  rw [h1, arr_same e]
/-- N 10 is nowhere in a warehouse -/
theorem wg_to (e : ∀ j, j < 236 → j ≠ 10 → M j = N j) (h : va_P D cl (wg cI a M G) H) : va_P D cl (wg cI a N G) H := by
  intro k q hq
  match k, hq with
  | 0, hq =>
    cases hq
    have p := h 0 _ wg_0
    rw [e 0 (by omega) (by omega), e 1 (by omega) (by omega)] at p
    exact p
  | 1, hq => cases hq; exact at_arr (fun k hk => e _ (by omega) (by omega)) (h 1 _ wg_1)
  | 2, hq => cases hq; exact at_arr (fun k hk => e _ (by omega) (by omega)) (h 2 _ wg_2)
  | 3, hq => cases hq; exact at_arr (fun k hk => e _ (by omega) (by omega)) (h 3 _ wg_3)
  | 4, hq => cases hq; exact at_arr (fun k hk => e _ (by omega) (by omega)) (h 4 _ wg_4)
  | 5, hq => cases hq; exact at_arr (fun k hk => e _ (by omega) (by omega)) (h 5 _ wg_5)
  | 6, hq => cases hq; exact at_arr (fun k hk => e _ (by omega) (by omega)) (h 6 _ wg_6)
  | 7, hq => cases hq; exact at_arr (fun k hk => e _ (by omega) (by omega)) (h 7 _ wg_7)
  | 8, hq => cases hq; exact at_arr (fun k hk => e _ (by omega) (by omega)) (h 8 _ wg_8)
  | 9, hq => cases hq; exact h 9 _ wg_9
  | 10, hq =>
    cases hq
    refine at_arr (fun k hk => ?_) (h 10 _ wg_10)
    rw [if_pos hk, if_pos hk]
    exact e _ (by omega) (by omega)
  | 11, hq =>
    cases hq
    have p := h 11 _ wg_11
    rw [e 5 (by omega) (by omega), e 6 (by omega) (by omega), e 7 (by omega) (by omega), e 8 (by omega) (by omega), e 9 (by omega) (by omega), e 11 (by omega) (by omega), e 12 (by omega) (by omega)] at p
    exact p
  | k + 12, hq => simp [wg] at hq
/-- now's row is M -/
def wn4 (W : Nat → va_H) (M : Nat → Int32) : Nat → va_H := fun i => if i = 4 then ((W 4).1, M, (W 4).2.2) else W i
theorem wn4_4 : wn4 W M 4 = ((W 4).1, M, (W 4).2.2) := if_pos rfl
theorem wn4_o {i : Nat} (hi : i ≠ 4) : wn4 W M i = W i := if_neg hi
theorem n4_P (e : ∀ j, j < 236 → j ≠ 10 → (W 4).2.1 j = M j) (hP : va_P D cl (ps cI cC cW h W S q V z U y I ++ Rr) H) : va_P D cl (ps cI cC cW h (wn4 W M) S q V z U y I ++ Rr) H := by
  have p1 : va_P D cl (wg cI (W 4).1 (W 4).2.1 (W 4).2.2 ++ R4 cI cC cW h W S q V z U y I) H := vP_perm ps_p4 (vP_l hP)
  have p2 : va_P D cl (wg cI (W 4).1 M (W 4).2.2) H := wg_to e (vP_l p1)
  have p3 : va_P D cl (R4 cI cC cW h W S q V z U y I) H := vP_r p1
  have p4 := vP_r hP
  refine vP_mem.mpr (fun x hx => ?_)
  rcases List.mem_append.mp hx with hx | hx
  · have hx2 : x ∈ wg cI (W 4).1 M (W 4).2.2 ++ R4 cI cC cW h W S q V z U y I := (ps_p4 (W := wn4 W M)).mem_iff.mp hx
    rcases List.mem_append.mp hx2 with hx2 | hx2
    · exact vP_mem.mp p2 x hx2
    · exact vP_mem.mp p3 x hx2
  · exact vP_mem.mp p4 x hx
theorem n4_D (hD : va_D A (ps cI cC cW h W S q V z U y I ++ Rr)) : va_D A (ps cI cC cW h (wn4 W M) S q V z U y I ++ Rr) := by
  refine vD_ad hD ?_
  rw [List.map_append, List.map_append]
  rfl
theorem rel.n4 (R : rel b W S q I N Z) : rel b (wn4 W N) S q I N Z := by
  obtain ⟨r1, r2, r3, r4, r5, r6⟩ := R
  refine ⟨fun j _ _ => by rw [wn4_4], by rw [wn4_4]; exact r2, r3, r4, fun i hi => ?_, r6⟩
  have i4 : i < 4 := by have := r3.2; omega
  rw [wn4_o (by omega)]
  exact r5 i hi
theorem N00_z {k : Nat} (h2 : k ≠ 2) (h3 : k ≠ 3) (h4 : k ≠ 4) : N00 k = 0 := by
  unfold N00 upd
  rw [if_neg h4, if_neg h3, if_neg h2]
/-- the fresh objects stand side by side -/
theorem rel_0 (hW : ∀ i, i < 6 → (W i).2.1 = N00 ∧ ∀ k, k < 60 → (W i).2.2 k = -1) : rel 0 W (fun _ => 0) (fun _ => 0) (fun _ => 0) N00 (fun _ _ => 0) := by
  have z0 : N00 0 = 0 := N00_z (by omega) (by omega) (by omega)
  have z1 : N00 1 = 0 := N00_z (by omega) (by omega) (by omega)
  have i00 : (0 : Int32).toInt = 0 := by decide
  refine ⟨fun j _ _ => by rw [(hW 4 (by omega)).1], ?_, ?_, rfl, fun i hi => ?_, ?_, rfl, fun j hj => ?_, fun j => ?_⟩
  · refine ⟨?_, fun g hg => ?_, fun g hg hn => ?_, ?_, ⟨fun g s hg => ?_, fun s hs => Or.inl ((hW 4 (by omega)).2 s hs)⟩, ?_⟩
    · unfold sfN; rw [z0, z1]; decide
    · rw [z0, i00] at hg; omega
    · refine ⟨fun s hs => ?_, ?_, ?_, ?_, ?_⟩ <;> exact N00_z (by omega) (by omega) (by omega)
    · unfold wft; decide
    · rw [z0, i00] at hg; omega
    · unfold wfb wkS
      rw [z0, i00, N00_z (by omega) (by omega) (by omega), N00_z (by omega) (by omega) (by omega)]
      rfl
  · unfold psZ; decide
  · rw [i00] at hi; omega
  · unfold tyZ; decide
  · rfl
  · rfl
theorem rel.st (R : rel b W S q I N Z) : 0 ≤ (I 0).toInt ∧ (I 0).toInt ≤ 4 := by rw [R.2.2.2.1]; exact R.2.2.1
theorem rel.ln (R : rel b W S q I N Z) : 0 ≤ (q 0).toInt := by rw [R.2.2.2.2.2.2.1]; exact R.2.2.2.2.2.1.1
theorem rel.ch (R : rel b W S q I N Z) : ∀ i, narrow .char (.int (S i)) = .int (S i) := R.2.2.2.2.2.2.2.2
theorem rel.sf (R : rel b W S q I N Z) : sfN N := R.2.1.sf
theorem rel.ps (R : rel b W S q I N Z) : psZ Z := R.2.2.1
theorem rel.ty (R : rel b W S q I N Z) : tyZ Z := R.2.2.2.2.2.1
theorem rel.s4 (R : rel b W S q I N Z) (hE : (W 4).2.1 = N) : sfN (W 4).2.1 := by rw [hE]; exact R.sf
theorem rel.ld (R : rel b W S q I N Z) : ¬ N 3 = 0 := by
  intro w
  have := R.2.1.t.2.1
  rw [w] at this
  exact absurd this (by decide)
end PX
