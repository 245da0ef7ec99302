/-! the law, from its entry -/
section LO
variable {p : Program} {e : Env} {s : State} {m : MethodId} {args : Array Value} {below : List Frame} {meth : Method} {c : Code} {l : Launch} {H : Heap} {locs : List Loc} {cells slots : Nat} {Q : State → Prop} {R : Room}
variable {y : MethodName} {bytes cc : ByteArray} {maxL nL n index pc mc ms : Nat} {ws : List Cond} {rm : Room} {Ts : List Cond} {own C : String} {b : Addr} {As rest st0 : List Value} {ls : Array Slot}
variable {D : va_G} {tys : List (ClassId × FieldType)} {wc ws0 Rr : va_W} {t : Nat → Nat} {A : Nat → Prop}
/-- a constructor over a part of the world, with the word of arrays over pooled objects -/
theorem rwIO {σ : Type} {wn w1 : σ → va_W} {po : σ → Prop} (hp : ws0.Perm (wc ++ Rr)) (hq : ∀ u, po u → (wn u ++ Rr).Perm (w1 u)) (S : CallFix p m c cc nL s args Ts own) (hM : Met l y ws rm (va_Pc (.ref b :: As) (fun U => rwP D tys wc t H.size U ∧ va_AO C U)) (va_Qv po (fun u => rwB D (va_A wc H.size) (wn u)) (va_A wc H.size)) mc ms (va_A wc H.size)) (cw : CallB R s args own index y bytes maxL none ws rm mc ms n ∧ y.name = "<init>" ∧ (Cond.instanceMethod y).before args s = true)
    (hao : va_AO C s) (hP : va_P D vwCl ws0 H) (hD : va_D A ws0) (hK : va_K D vwCl tys s) (hX : sx t A s s.heap) (hS : va_S A s.heap H locs) (hA : ∀ q, s.heap.size ≤ q → A q)
    (hn : As.length = n) (hsize : ls.size = nL) (hstack : st0 = As.reverse ++ .ref b :: rest) (hcat : (rest.map fun v => v.category).sum ≤ 8) (hdg : decode cc pc = .ok (.invokespecial index, 3)) (hf : cells + mc ≤ R.cells ∧ slots + ms ≤ R.slots)
    (kk : ∀ (u : σ) (H1 : Heap) (locs1 : List Loc), po u → va_P D vwCl (w1 u) H1 → va_D A (w1 u) → va_S A s.heap H1 locs1 → W p l e R s m args below meth c H1 locs1 (cells + mc) (slots + ms) Q (F0 m (pc + 3) ls rest)) : W p l e R s m args below meth c H locs cells slots Q (F0 m pc ls st0) := by
  have hP2 := vP_perm hp hP
  have hD2 := vD_perm hp hD
  have hPc := vP_l hP2
  have hDc := vD_l hD2
  have hF := fA hDc hS hA
  have bl : FrameBlind (va_Pc (.ref b :: As) (fun U => rwP D tys wc t H.size U ∧ va_AO C U)) := fun a U g mk q => ⟨q.1, (rwP.blind (.ref b :: As) D tys wc t H.size a U g mk ⟨q.1, q.2.1⟩).2, va_AO.moved (u := U) (U := U.calling g mk a) (Vm.Alike.refl U.vm) q.2.2⟩
  refine va_callv (va_runI S hM cw ⟨bl, fun U hU hW => ⟨rfl, ⟨by rw [hU], by rw [hU]; exact hPc, va_K.moved hW.alike hK, hDc.weaken (fun _ _ _ _ => trivial), hX.to hS hF hU hW⟩, va_AO.moved hW.alike hao⟩⟩ rfl hn hsize hstack (lv_room hcat) hdg hf) hS (fun q _ h => hF q h) hF (fun u T' H1 locs1 ht _ hw hB _ hk1 hS1 => ?_)
  obtain ⟨hP1, hD1⟩ := hB
  rw [ht] at hP1
  obtain ⟨j1, j2⟩ := vjn hP2 hD2 hk1 hF hP1 hD1
  exact kk u H1 locs1 hw (vP_perm (hq u hw) j1) (vD_perm (hq u hw) j2) hS1
end LO
set_option maxHeartbeats 4000000 in
set_option maxRecDepth 100000 in
/-- THE LAW, from its entry -/
theorem whole_start {p : Program} {e : Env} {s : State} {m : MethodId} {below : List Frame} {meth : Method} {c : Code} (l : Launch) (hflags : l.flags = flags0) {b L : Nat} {xs : Nat → Int32} (hL : L ≤ 260) (C0 : lw_At p s m meth c b L xs) : W p l e room_1 s m #[Value.ref b] below meth c s.heap [] 0 0 (lw_Z below #[Value.ref b] s) (entryFrame m ([Value.ref b] : List Value).toArray 9) := by
  obtain ⟨hx, hb, hr, hml, hown, hts, hXs, hbl, hlocks, hgv⟩ := id C0
  have htsW : ∀ w ∈ wsL_law, w.before #[Value.ref b] s = true := fun w h => hts w (wsL_law_in w h)
  obtain ⟨D, cI, cC, cW, hK⟩ := law_K hts
  obtain ⟨t, hX⟩ := law_sx hts hgv
  have hao := law_ao hts
  have hA : ∀ q : Nat, s.heap.size ≤ q → lA s q := fun _ h => h
  have CF : CallFix p m c cL_law 9 s #[Value.ref b] wsL_law RL := ⟨hx, hb, hml, hown, htsW⟩
  have hS : va_S (lA s) s.heap s.heap [] := va_S.rf
  have hP : va_P D vwCl [] s.heap := fun k q h => by simp at h
  have hD : va_D (lA s) [] := ⟨fun i j p q h => by simp at h, fun k q h => by simp at h⟩
  have wd1 : (Cond.classLink RL 14 RX5).before #[Value.ref b] s = true := hts _ (by decide +kernel)
  have wd2 : (Cond.instantiable RX5 9).before #[Value.ref b] s = true := hts _ (by decide +kernel)
  have wd3 : (Cond.initialized RX5).before #[Value.ref b] s = true := hts _ (by decide +kernel)
  have wd4 : (Cond.methodLink RL 109 yX5_init).before #[Value.ref b] s = true := hts _ (by decide +kernel)
  have wd5 : (Cond.instanceMethod yX5_init).before #[Value.ref b] s = true := hts _ (by decide +kernel)
  have wd6 : (Cond.arrayClass .int).before #[Value.ref b] s = true := hts _ (by decide +kernel)
  have hl := lv_entry ([.ref b]) (n := 9) (Nat.le_of_ble_eq_true rfl)
  rw [lg_entry_eq]
  generalize (lg_sl ([.ref b]) ++ List.replicate (9 - (lg_sl ([.ref b])).length) Slot.unset).toArray = ls at hl ⊢
  have hl : lv_has ls 9 [(0, .ref b)] := hl
  refine va_new (ci := 4) (fs := [.null, .null, .null, .null, .null, .null, .int 0, .int 0, .int 0]) (C := RX5) (T := TX5) (N := 9) hx hb hts inX5 tyX5 tyX5_ok hown wd1 wd2 wd3 hK hP hD hS hA rfl (fun j hj => by rcases (show j = 0 ∨ j = 1 ∨ j = 2 ∨ j = 3 ∨ j = 4 ∨ j = 5 ∨ j = 6 ∨ j = 7 ∨ j = 8 by omega) with rfl | rfl | rfl | rfl | rfl | rfl | rfl | rfl | rfl <;> rfl) (Nat.le_of_ble_eq_true rfl) (Nat.le_of_ble_eq_true rfl) dL_law_0 (fun q0 H hP hD hS => ?_)
  have hP : va_P D vwCl [(q0, .inr (4, [.null, .null, .null, .null, .null, .null, .int 0, .int 0, .int 0]))] H := hP
  have hD : va_D (lA s) [(q0, .inr (4, [.null, .null, .null, .null, .null, .null, .int 0, .int 0, .int 0]))] := hD
  refine lv_dup hx hb dL_law_3 rfl ?_
  refine rwIO (C := RX4) (wc := [(q0, .inr (4, [.null, .null, .null, .null, .null, .null, .int 0, .int 0, .int 0]))]) (Rr := []) (w1 := fun u : (Nat → Nat) × (Nat → va_H) => ps cI cC cW u.1 u.2 (fun _ => 0) (fun _ => 0) (fun _ => 0) 0 (fun _ => 0) 0 (fun _ => 0)) (List.Perm.refl _) (fun u _ => by rw [List.append_nil]) CF (c_X5_init l D cI cC cW t q0 _) (cwI 0 htsW gL_law_X5_init rfl rfl rfl wd3 wd4 wd5 rfl (by decide +kernel) ⟨Nat.le_of_ble_eq_true rfl, Nat.le_of_ble_eq_true rfl⟩) hao hP hD hK hX hS hA rfl hl.1 rfl (Nat.le_of_ble_eq_true rfl) dL_law_4 ⟨Nat.le_of_ble_eq_true rfl, Nat.le_of_ble_eq_true rfl⟩ (fun u H2 locs2 hu hP2 hD2 hS2 => ?_)
  clear hS hD hP
  obtain ⟨h, Y⟩ := u
  obtain ⟨e1, hW⟩ := hu
  dsimp only at e1 hW hP2 hD2
  subst e1
  refine lv_astore_n (lv' := [(1, .ref (h 0)), (0, .ref b)]) hx hb dL_law_7 rfl hl (by decide) rfl (fun ls hl => ?_)
  refine lv_bipush (v := 20) hx hb dL_law_8 (by decide) ?_
  refine my_newai hx hb wd6 hK rfl hP2 hD2 hS2 hA (by decide) (N' := 20) rfl (Nat.le_of_ble_eq_true rfl) (Nat.le_of_ble_eq_true rfl) (Nat.le_of_ble_eq_true rfl) (at' := .int) rfl dL_law_10 (fun dd H hP hD hS => ?_)
  clear hS2 hD2 hP2
  refine lv_astore_n (lv' := [(2, .ref dd), (1, .ref (h 0)), (0, .ref b)]) hx hb dL_law_12 rfl hl (by decide) rfl (fun ls hl => ?_)
  refine W.widen (k := 100) (n := 4000) (by omega) (by omega) ?_
  have h4 := hW 4 (by omega)
  exact law_a (h := h) (dd := dd) (Y := Y) (S := fun _ => 0) (q := fun _ => 0) (V := fun _ => 0) (z := 0) (U := fun _ => 0) (y := 0) (I := fun _ => 0) (d := fun _ => 0) hL C0 htsW hK hX (fun _ => rfl) ⟨h4.1, h4.2, rfl, rfl⟩ rfl hP hD hS hl
