/-! the world of PickSlots: its object, its history, the text, two sorted rows, six warehouses (0 to 3 in the history, 4 now, 5 trial) -/
abbrev va_H : Type := (Nat → Nat) × (Nat → Int32) × (Nat → Int32)
abbrev va_NG : Type := (Nat → Int32) × (Nat → Int32)
def w1 (cI : ClassId) (w : va_H) : va_W := wg cI w.1 w.2.1 w.2.2
def rr4 (x0 x1 x2 x3 : Nat) : Nat → Option Nat := fun k => match k with
  | 0 => some x0
  | 1 => some x1
  | 2 => some x2
  | 3 => some x3
  | _ => none
def hs (h : Nat → Nat) (j : Nat) : Nat → Nat := fun k => h (j + k)
/-- the object and its history's row -/
def pob (cW : ClassId) (h : Nat → Nat) (n t : Nat) (r : Nat → Option Nat) (I : Nat → Int32) : va_W := [(h 0, .inr (4, [.ref (h 1), .ref (h 2), .ref (h 4), .ref (h 6), .ref n, .ref t, .int (I 0), .int (I 1), .int (I 2)])), (h 1, .inl (cW, 4, .inr (.inr (.inr (.inr r)))))]
def pt (cI cC : ClassId) (h : Nat → Nat) (S q V : Nat → Int32) (z : Int32) (U : Nat → Int32) (y : Int32) : va_W := tx cC (hs h 2) S q ++ (sr cI (hs h 4) V z ++ sr cI (hs h 6) U y)
def wh (cI : ClassId) (W : Nat → va_H) : va_W := w1 cI (W 0) ++ (w1 cI (W 1) ++ (w1 cI (W 2) ++ w1 cI (W 3)))
def ps (cI cC cW : ClassId) (h : Nat → Nat) (W : Nat → va_H) (S q V : Nat → Int32) (z : Int32) (U : Nat → Int32) (y : Int32) (I : Nat → Int32) : va_W :=
  pob cW h ((W 4).1 0) ((W 5).1 0) (rr4 ((W 0).1 0) ((W 1).1 0) ((W 2).1 0) ((W 3).1 0)) I ++ (pt cI cC h S q V z U y ++ (w1 cI (W 4) ++ (w1 cI (W 5) ++ wh cI W)))
/-- the trial's contents are others -/
def w5 (W : Nat → va_H) (N G : Nat → Int32) : Nat → va_H := fun i => if i = 5 then ((W 5).1, N, G) else W i
section ZP
variable {cI cC cW : ClassId} {h : Nat → Nat} {W : Nat → va_H} {S q V : Nat → Int32} {z : Int32} {U : Nat → Int32} {y : Int32} {I : Nat → Int32}
theorem ps_0 : (ps cI cC cW h W S q V z U y I)[0]? = some (h 0, .inr (4, [.ref (h 1), .ref (h 2), .ref (h 4), .ref (h 6), .ref ((W 4).1 0), .ref ((W 5).1 0), .int (I 0), .int (I 1), .int (I 2)])) := rfl
theorem ps_1 : (ps cI cC cW h W S q V z U y I)[1]? = some (h 1, .inl (cW, 4, .inr (.inr (.inr (.inr (rr4 ((W 0).1 0) ((W 1).1 0) ((W 2).1 0) ((W 3).1 0))))))) := rfl
theorem ps_2 : (ps cI cC cW h W S q V z U y I)[2]? = some (h 2, .inr (1, [.ref (h 3), .int (q 0), .int (q 1), .int (q 2), .int (q 3), .int (q 4)])) := rfl
theorem ps_4 : (ps cI cC cW h W S q V z U y I)[4]? = some (h 4, .inr (2, [.ref (h 5), .int z])) := rfl
theorem ps_6 : (ps cI cC cW h W S q V z U y I)[6]? = some (h 6, .inr (2, [.ref (h 7), .int y])) := rfl
theorem ps_f6 (x : Int32) : (ps cI cC cW h W S q V z U y I).set 0 (h 0, .inr (4, List.set [.ref (h 1), .ref (h 2), .ref (h 4), .ref (h 6), .ref ((W 4).1 0), .ref ((W 5).1 0), .int (I 0), .int (I 1), .int (I 2)] 6 (.int x))) = ps cI cC cW h W S q V z U y (upd I 0 x) := rfl
theorem ps_f7 (x : Int32) : (ps cI cC cW h W S q V z U y I).set 0 (h 0, .inr (4, List.set [.ref (h 1), .ref (h 2), .ref (h 4), .ref (h 6), .ref ((W 4).1 0), .ref ((W 5).1 0), .int (I 0), .int (I 1), .int (I 2)] 7 (.int x))) = ps cI cC cW h W S q V z U y (upd I 1 x) := rfl
theorem ps_f8 (x : Int32) : (ps cI cC cW h W S q V z U y I).set 0 (h 0, .inr (4, List.set [.ref (h 1), .ref (h 2), .ref (h 4), .ref (h 6), .ref ((W 4).1 0), .ref ((W 5).1 0), .int (I 0), .int (I 1), .int (I 2)] 8 (.int x))) = ps cI cC cW h W S q V z U y (upd I 2 x) := rfl
theorem ps_t1 (x : Int32) : (ps cI cC cW h W S q V z U y I).set 2 (h 2, .inr (1, List.set [.ref (h 3), .int (q 0), .int (q 1), .int (q 2), .int (q 3), .int (q 4)] 1 (.int x))) = ps cI cC cW h W S (upd q 0 x) V z U y I := rfl
def R4 (cI cC cW : ClassId) (h : Nat → Nat) (W : Nat → va_H) (S q V : Nat → Int32) (z : Int32) (U : Nat → Int32) (y : Int32) (I : Nat → Int32) : va_W := pob cW h ((W 4).1 0) ((W 5).1 0) (rr4 ((W 0).1 0) ((W 1).1 0) ((W 2).1 0) ((W 3).1 0)) I ++ (pt cI cC h S q V z U y ++ (w1 cI (W 5) ++ wh cI W))
def R5 (cI cC cW : ClassId) (h : Nat → Nat) (W : Nat → va_H) (S q V : Nat → Int32) (z : Int32) (U : Nat → Int32) (y : Int32) (I : Nat → Int32) : va_W := pob cW h ((W 4).1 0) ((W 5).1 0) (rr4 ((W 0).1 0) ((W 1).1 0) ((W 2).1 0) ((W 3).1 0)) I ++ (pt cI cC h S q V z U y ++ (w1 cI (W 4) ++ wh cI W))
def R54 (cI cC cW : ClassId) (h : Nat → Nat) (W : Nat → va_H) (S q V : Nat → Int32) (z : Int32) (U : Nat → Int32) (y : Int32) (I : Nat → Int32) : va_W := pob cW h ((W 4).1 0) ((W 5).1 0) (rr4 ((W 0).1 0) ((W 1).1 0) ((W 2).1 0) ((W 3).1 0)) I ++ (pt cI cC h S q V z U y ++ wh cI W)
def Rt (cI cC cW : ClassId) (h : Nat → Nat) (W : Nat → va_H) (V : Nat → Int32) (z : Int32) (U : Nat → Int32) (y : Int32) (I : Nat → Int32) : va_W := pob cW h ((W 4).1 0) ((W 5).1 0) (rr4 ((W 0).1 0) ((W 1).1 0) ((W 2).1 0) ((W 3).1 0)) I ++ ((sr cI (hs h 4) V z ++ sr cI (hs h 6) U y) ++ (w1 cI (W 4) ++ (w1 cI (W 5) ++ wh cI W)))
def Rs (cI cC cW : ClassId) (h : Nat → Nat) (W : Nat → va_H) (S q I : Nat → Int32) : va_W := pob cW h ((W 4).1 0) ((W 5).1 0) (rr4 ((W 0).1 0) ((W 1).1 0) ((W 2).1 0) ((W 3).1 0)) I ++ (tx cC (hs h 2) S q ++ (w1 cI (W 5) ++ wh cI W))
theorem ps_p4 : (ps cI cC cW h W S q V z U y I).Perm (wg cI (W 4).1 (W 4).2.1 (W 4).2.2 ++ R4 cI cC cW h W S q V z U y I) :=
  (List.Perm.append_left _ (List.perm_append_comm_assoc _ _ _)).trans (List.perm_append_comm_assoc _ _ _)
theorem ps_p5 : (ps cI cC cW h W S q V z U y I).Perm (wg cI (W 5).1 (W 5).2.1 (W 5).2.2 ++ R5 cI cC cW h W S q V z U y I) :=
  (List.Perm.append_left _ (List.Perm.append_left _ (List.perm_append_comm_assoc _ _ _))).trans ((List.Perm.append_left _ (List.perm_append_comm_assoc _ _ _)).trans (List.perm_append_comm_assoc _ _ _))
theorem ps_q5 (u : va_NG) : (wg cI (W 5).1 u.1 u.2 ++ R5 cI cC cW h W S q V z U y I).Perm (ps cI cC cW h (w5 W u.1 u.2) S q V z U y I) := (ps_p5 (W := w5 W u.1 u.2)).symm
theorem ps_p54 : (ps cI cC cW h W S q V z U y I).Perm ((wg cI (W 5).1 (W 5).2.1 (W 5).2.2 ++ wg cI (W 4).1 (W 4).2.1 (W 4).2.2) ++ R54 cI cC cW h W S q V z U y I) := by
  refine ps_p5.trans ?_
  rw [List.append_assoc]
  exact List.Perm.append_left _ ((List.Perm.append_left _ (List.perm_append_comm_assoc _ _ _)).trans (List.perm_append_comm_assoc _ _ _))
theorem ps_q54 : ((wg cI (W 5).1 (W 4).2.1 (W 4).2.2 ++ wg cI (W 4).1 (W 4).2.1 (W 4).2.2) ++ R54 cI cC cW h W S q V z U y I).Perm (ps cI cC cW h (w5 W (W 4).2.1 (W 4).2.2) S q V z U y I) := (ps_p54 (W := w5 W (W 4).2.1 (W 4).2.2)).symm
theorem ps_pt : (ps cI cC cW h W S q V z U y I).Perm (tx cC (hs h 2) S q ++ Rt cI cC cW h W V z U y I) := by
  unfold ps pt
  rw [List.append_assoc]
  exact List.perm_append_comm_assoc _ _ _
theorem ps_qt (u : Nat → Int32) : (tx cC (hs h 2) S u ++ Rt cI cC cW h W V z U y I).Perm (ps cI cC cW h W S u V z U y I) := ps_pt.symm
theorem ps_qT (u : va_NG) : (tx cC (hs h 2) u.1 u.2 ++ Rt cI cC cW h W V z U y I).Perm (ps cI cC cW h W u.1 u.2 V z U y I) := ps_pt.symm
theorem ps_psw : (ps cI cC cW h W S q V z U y I).Perm (sw cI (W 4).1 (hs h 4) (hs h 6) (W 4).2.1 (W 4).2.2 V z U y ++ Rs cI cC cW h W S q I) := by
  unfold ps pt sw Rs
  rw [List.append_assoc (tx cC (hs h 2) S q), List.append_assoc (wg cI (W 4).1 (W 4).2.1 (W 4).2.2)]
  refine (List.Perm.append_left _ (List.Perm.append_left _ (List.perm_append_comm_assoc _ _ _))).trans ?_
  refine (List.Perm.append_left _ (List.perm_append_comm_assoc _ _ _)).trans ?_
  refine (List.perm_append_comm_assoc _ _ _).trans ?_
  refine List.Perm.append_left _ ?_
  refine (List.Perm.append_left _ (List.perm_append_comm_assoc _ _ _)).trans ?_
  exact List.perm_append_comm_assoc _ _ _
theorem ps_qsw (u : (Nat → Int32) × Int32 × (Nat → Int32) × Int32) : (sw cI (W 4).1 (hs h 4) (hs h 6) (W 4).2.1 (W 4).2.2 u.1 u.2.1 u.2.2.1 u.2.2.2 ++ Rs cI cC cW h W S q I).Perm (ps cI cC cW h W S q u.1 u.2.1 u.2.2.1 u.2.2.2 I) := ps_psw.symm
end ZP
/-! the warehouses change places -/
/-- the oldest state becomes the newest place -/
def dr (W : Nat → va_H) : Nat → va_H := fun i => if i < 3 then W (i + 1) else if i = 3 then W 0 else W i
/-- now goes into the history, the trial is now, what stood there is the trial -/
def cy (k : Nat) (W : Nat → va_H) : Nat → va_H := fun i => if i = k then W 4 else if i = 4 then W 5 else if i = 5 then W k else W i
/-- now and a state of the history change places -/
def sp4 (k : Nat) (W : Nat → va_H) : Nat → va_H := fun i => if i = k then W 4 else if i = 4 then W k else W i
theorem wl_perm {cI : ClassId} {W W' : Nat → va_H} {k : List Nat} (hk : k.Perm [4, 5, 0, 1, 2, 3]) (e : [W' 4, W' 5, W' 0, W' 1, W' 2, W' 3] = k.map W) : (w1 cI (W 4) ++ (w1 cI (W 5) ++ wh cI W)).Perm (w1 cI (W' 4) ++ (w1 cI (W' 5) ++ wh cI W')) := by
  have a : ∀ X : Nat → va_H, w1 cI (X 4) ++ (w1 cI (X 5) ++ wh cI X) = [X 4, X 5, X 0, X 1, X 2, X 3].flatMap (w1 cI) := fun X => by simp [wh]
  rw [a W, a W', e]
  refine List.Perm.flatMap_right _ ?_
  exact (hk.map W).symm
theorem rr4_up0 {a b c d x : Nat} : va_up (rr4 a b c d) 0 (some x) = rr4 x b c d := by
  funext k
  match k with
  | 0 => rfl
  | 1 => rfl
  | 2 => rfl
  | 3 => rfl
  | k + 4 => rfl
theorem rr4_up1 {a b c d x : Nat} : va_up (rr4 a b c d) 1 (some x) = rr4 a x c d := by
  funext k
  match k with
  | 0 => rfl
  | 1 => rfl
  | 2 => rfl
  | 3 => rfl
  | k + 4 => rfl
theorem rr4_up2 {a b c d x : Nat} : va_up (rr4 a b c d) 2 (some x) = rr4 a b x d := by
  funext k
  match k with
  | 0 => rfl
  | 1 => rfl
  | 2 => rfl
  | 3 => rfl
  | k + 4 => rfl
theorem rr4_up3 {a b c d x : Nat} : va_up (rr4 a b c d) 3 (some x) = rr4 a b c x := by
  funext k
  match k with
  | 0 => rfl
  | 1 => rfl
  | 2 => rfl
  | 3 => rfl
  | k + 4 => rfl
