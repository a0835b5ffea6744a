/-! links of fields -/
def CL (ci : Nat) (C : String) (T : u_T) (N : Nat) (ty0 : Nat → FieldType) : Prop := vwCl[ci]? = some (C, T, N) ∧ (∀ w ∈ u_ws C T N, w ∈ lwG) ∧ (∀ k, k < N → parseFieldDescriptor (T k).2.2.1 = some (ty0 k)) ∧ (∀ a, a < N → ∀ b, b < N → a ≠ b → (T a).2.1 ≠ (T b).2.1) ∧ (fks ci).length = N ∧ ci < 11
def FL (own : String) (idx ci j kd : Nat) (fin : Bool) (ty : FieldType) : Prop := ∃ (C : String) (T : u_T) (N : Nat) (ty0 : Nat → FieldType), CL ci C T N ty0 ∧ j < N ∧ Cond.fieldLink own idx (T j).1 (T j).2.1 (T j).2.2.1 ∈ lwG ∧ (T j).2.2.2 = fin ∧ ty0 j = ty ∧ (fks ci)[j]? = some kd ∧ (T j).1 = C
theorem shp_le (k : Nat) : (shp k).2 ≤ 46656 := by
  unfold shp
  split <;> decide
theorem shp_lt {k c z : Nat} (h : shp k = (c, z)) : z < 2147483648 := by
  have := shp_le k
  rw [h] at this
  dsimp only at this
  omega
theorem fs_get {ad : Nat → Nat} {M : Mem} {P : PMem} {k ci j kd : Nat} (h : (fks ci)[j]? = some kd) : ((fks ci).mapIdx (fun j kd => fvl ad M P k j kd))[j]? = some (fvl ad M P k j kd) := by
  rw [List.getElem?_mapIdx, h]; rfl
theorem fs_set {ad : Nat → Nat} {M M' : Mem} {P P' : PMem} {k ci j kd : Nat} (h : (fks ci)[j]? = some kd) (hM : ∀ i, i ≠ j → M' k i = M k i) (hP : ∀ i, i ≠ j → P' k i = P k i) : ((fks ci).mapIdx (fun j kd => fvl ad M P k j kd)).set j (fvl ad M' P' k j kd) = (fks ci).mapIdx (fun j kd => fvl ad M' P' k j kd) := by
  apply List.ext_getElem?
  intro i
  by_cases hi : i = j
  · subst hi
    rw [List.getElem?_set_self (by rw [List.length_mapIdx]; exact (List.getElem?_eq_some_iff.mp h).1), fs_get h]
  · rw [List.getElem?_set_ne (fun e => hi e.symm), List.getElem?_mapIdx, List.getElem?_mapIdx]
    cases (fks ci)[i]? with
    | none => rfl
    | some q =>
      show some (fvl ad M P k i q) = some (fvl ad M' P' k i q)
      unfold fvl
      split <;> simp [hM i hi, hP i hi]
section LAY5
variable {X : CX} {Y : CY} {cc : ByteArray} {own : String} {nL : Nat} {rt : Option FieldType} {fr lo nm : Nat} {pc : Nat} {L st : List AV} {M : Mem} {P : PMem}
theorem G_get0 {k ci z j kd idx : Nat} {fin : Bool} {ty : FieldType} {v : AV} (hC : OK X Y cc own nL rt fr lo nm) (hf : FL own idx ci j kd fin ty) (hs : shp k = (ci, z)) (hk : k < nm) (hv : fvl (ya Y) M P k j kd = cv (ya Y) v) (d : decode cc pc = .ok (.getfield idx, 3)) (kk : G X Y (pc + 3) L (v :: st) M P) : G X Y pc L (vR k :: st) M P := by
  obtain ⟨C, T, N, ty0, ⟨hc, hin, hty, hnm, hfk, hci⟩, hj, hl, hfin, ht, hkd, hTC⟩ := hf
  intro H locs ls h1 h2 h3
  have h := kk H locs ls h1 h2 h3
  rw [List.map_cons, ← hv] at h
  exact va_get hC.x hC.b hC.w hin hC.o hC.K h1 k (by rw [wl_get (hC.n hk), ceS_obj hs hci]) hc j hj (hC.w _ hl) (fun _ h => h) (fs_get hkd) d h
theorem G_getI {k ci z j idx : Nat} {fin : Bool} {ty : FieldType} (hC : OK X Y cc own nL rt fr lo nm) (hf : FL own idx ci j 0 fin ty) (hs : shp k = (ci, z)) (hk : k < nm) (d : decode cc pc = .ok (.getfield idx, 3)) (kk : G X Y (pc + 3) L (vI (M k j) :: st) M P) : G X Y pc L (vR k :: st) M P :=
  G_get0 hC hf hs hk rfl d kk
theorem G_getL {k ci z j idx : Nat} {fin : Bool} {ty : FieldType} (hC : OK X Y cc own nL rt fr lo nm) (hf : FL own idx ci j 1 fin ty) (hs : shp k = (ci, z)) (hk : k < nm) (d : decode cc pc = .ok (.getfield idx, 3)) (kk : G X Y (pc + 3) L (vL (M k j) :: st) M P) : G X Y pc L (vR k :: st) M P :=
  G_get0 hC hf hs hk rfl d kk
theorem G_getR {k ci z j idx q : Nat} {fin : Bool} {ty : FieldType} (hC : OK X Y cc own nL rt fr lo nm) (hf : FL own idx ci j 2 fin ty) (hs : shp k = (ci, z)) (hk : k < nm) (hP : P k j = some q) (d : decode cc pc = .ok (.getfield idx, 3)) (kk : G X Y (pc + 3) L (vR q :: st) M P) : G X Y pc L (vR k :: st) M P :=
  G_get0 hC hf hs hk (by simp [fvl, hP, va_rf, cv]) d kk
theorem G_put0 {k ci z j kd idx : Nat} {ty : FieldType} {v : AV} {M' : Mem} {P' : PMem} (hC : OK X Y cc own nL rt fr lo nm) (hf : FL own idx ci j kd false ty) (hs : shp k = (ci, z)) (hk : k < nm) (hn : narrow ty (cv (ya Y) v) = cv (ya Y) v) (hfit : fits ty (cv (ya Y) v) = true) (hv : fvl (ya Y) M' P' k j kd = cv (ya Y) v) (hM : ∀ i, i ≠ j → M' k i = M k i) (hP : ∀ i, i ≠ j → P' k i = P k i) (hM2 : ∀ a, a ≠ k → ∀ i, M' a i = M a i) (hP2 : ∀ a, a ≠ k → ∀ i, P' a i = P a i) (d : decode cc pc = .ok (.putfield idx, 3)) (kk : G X Y (pc + 3) L st M' P') : G X Y pc L (v :: vR k :: st) M P := by
  obtain ⟨C, T, N, ty0, ⟨hc, hin, hty, hnm, hfk, hci⟩, hj, hl, hfin, ht, hkd, hTC⟩ := hf
  intro H locs ls h1 h2 h3
  have hkn := hC.n hk
  refine va_put (D := xD X) (ci := ci) (v := cv (ya Y) v) (ty := ty) hC.x hC.b hC.w hin ty0 hty hnm hC.o hC.K h1 (hC.D (M := M) (P := P)) h2 k (by rw [wl_get hkn, ceS_obj hs hci]) hc j hj (hC.w _ hl) (fun _ h => h) hfin (by rw [hty j hj, ht]) hn hfit (by rw [List.length_mapIdx, hfk]; exact hj) d (fun H1 locs1 q1 q2 q3 => ?_)
  refine kk H1 locs1 ls ?_ q3 h3
  rw [← hv, fs_set hkd hM hP, ← ceS_obj (cy := xcy X) (ad := ya Y) (M := M') (P := P') hs hci, wl_set hkn (fun i hi => ce_congr (hM2 i hi) (hP2 i hi))] at q1
  exact q1
theorem G_putI {k ci z j idx : Nat} {v : Int} (hC : OK X Y cc own nL rt fr lo nm) (hf : FL own idx ci j 0 false .int) (hs : shp k = (ci, z)) (hk : k < nm) (d : decode cc pc = .ok (.putfield idx, 3)) (kk : G X Y (pc + 3) L st (upM M k j v) P) : G X Y pc L (vI v :: vR k :: st) M P :=
  G_put0 hC hf hs hk rfl rfl (by simp [fvl, cv, upM]) (fun i hi => upM_nej hi k) (fun _ _ => rfl) (fun a ha i => upM_ne ha i) (fun _ _ _ => rfl) d kk
theorem G_putZ {k ci z j idx : Nat} {v : Int} (hC : OK X Y cc own nL rt fr lo nm) (hf : FL own idx ci j 0 false .boolean) (hs : shp k = (ci, z)) (hk : k < nm) (hv : v = 0 ∨ v = 1) (d : decode cc pc = .ok (.putfield idx, 3)) (kk : G X Y (pc + 3) L st (upM M k j v) P) : G X Y pc L (vI v :: vR k :: st) M P :=
  G_put0 hC hf hs hk (by rcases hv with rfl | rfl <;> rfl) (by rcases hv with rfl | rfl <;> rfl) (by simp [fvl, cv, upM]) (fun i hi => upM_nej hi k) (fun _ _ => rfl) (fun a ha i => upM_ne ha i) (fun _ _ _ => rfl) d kk
theorem G_putL {k ci z j idx : Nat} {v : Int} (hC : OK X Y cc own nL rt fr lo nm) (hf : FL own idx ci j 1 false .long) (hs : shp k = (ci, z)) (hk : k < nm) (d : decode cc pc = .ok (.putfield idx, 3)) (kk : G X Y (pc + 3) L st (upM M k j v) P) : G X Y pc L (vL v :: vR k :: st) M P :=
  G_put0 hC hf hs hk rfl rfl (by simp [fvl, cv, upM]) (fun i hi => upM_nej hi k) (fun _ _ => rfl) (fun a ha i => upM_ne ha i) (fun _ _ _ => rfl) d kk
theorem G_putR {k ci z j idx q : Nat} {ty : FieldType} (hC : OK X Y cc own nL rt fr lo nm) (hf : FL own idx ci j 2 false (.array ty)) (hs : shp k = (ci, z)) (hk : k < nm) (d : decode cc pc = .ok (.putfield idx, 3)) (kk : G X Y (pc + 3) L st M (upP P k j (some q))) : G X Y pc L (vR q :: vR k :: st) M P :=
  G_put0 hC hf hs hk rfl rfl (by simp [fvl, cv, upP, va_rf]) (fun _ _ => rfl) (fun i hi => by simp [upP, hi]) (fun _ _ _ => rfl) (fun a ha i => upP_ne ha i) d kk
/-- a final field, in a constructor -/
theorem G_putF0 {k ci z j kd idx : Nat} {ty : FieldType} {v : AV} {M' : Mem} {P' : PMem} (hC : OK X Y cc own nL rt fr lo nm) (hI : (xmeth X).name = "<init>") (hf : FL own idx ci j kd true ty) (hown : ∀ C T N, vwCl[ci]? = some (C, T, N) → C = own) (hs : shp k = (ci, z)) (hk : k < yn Y) (hn : narrow ty (cv (ya Y) v) = cv (ya Y) v) (hfit : fits ty (cv (ya Y) v) = true) (hv : fvl (ya Y) M' P' k j kd = cv (ya Y) v) (hM : ∀ i, i ≠ j → M' k i = M k i) (hP : ∀ i, i ≠ j → P' k i = P k i) (hM2 : ∀ a, a ≠ k → ∀ i, M' a i = M a i) (hP2 : ∀ a, a ≠ k → ∀ i, P' a i = P a i) (d : decode cc pc = .ok (.putfield idx, 3)) (kk : G X Y (pc + 3) L st M' P') : G X Y pc L (v :: vR k :: st) M P := by
  obtain ⟨C, T, N, ty0, ⟨hc, hin, hty, hnm, hfk, hci⟩, hj, hl, hfin, ht, hkd, hTC⟩ := hf
  intro H locs ls h1 h2 h3
  have hkn := hk
  refine va_putF (D := xD X) (ci := ci) (v := cv (ya Y) v) (ty := ty) hC.x hC.b hC.w hin ty0 hty hnm hC.o hC.K h1 (hC.D (M := M) (P := P)) h2 k (by rw [wl_get hkn, ceS_obj hs hci]) hc j hj (hC.w _ hl) (fun _ h => h) hfin hI (by rw [hTC]; exact hown C T N hc) (by rw [hty j hj, ht]) hn hfit (by rw [List.length_mapIdx, hfk]; exact hj) d (fun H1 locs1 q1 q2 q3 => ?_)
  refine kk H1 locs1 ls ?_ q3 h3
  rw [← hv, fs_set hkd hM hP, ← ceS_obj (cy := xcy X) (ad := ya Y) (M := M') (P := P') hs hci, wl_set hkn (fun i hi => ce_congr (hM2 i hi) (hP2 i hi))] at q1
  exact q1
/-! arrays -/
theorem G_iaload {k z : Nat} {i : Int} (hC : OK X Y cc own nL rt fr lo nm) (hs : shp k = (11, z)) (hk : k < nm) (hi : 0 ≤ i ∧ i < z) (d : decode cc pc = .ok (.iaload, 1)) (kk : G X Y (pc + 1) L (vI (M k i.toNat) :: st) M P) : G X Y pc L (vI i :: vR k :: st) M P := by
  intro H locs ls h1 h2 h3
  have h := kk H locs ls h1 h2 h3
  have hz := shp_lt hs
  refine va_iald hC.x hC.b hC.K h1 k 0 (n := z) (f := fun j => Int32.ofInt (M k j)) (by rw [wl_get (hC.n hk), ceS_I hs]) rfl (i32_in hi hz) d ?_
  rw [i32_clamp (by omega)]
  exact h
theorem G_laload {k z : Nat} {i : Int} (hC : OK X Y cc own nL rt fr lo nm) (hs : shp k = (12, z)) (hk : k < nm) (hi : 0 ≤ i ∧ i < z) (d : decode cc pc = .ok (.laload, 1)) (kk : G X Y (pc + 1) L (vL (M k i.toNat) :: st) M P) : G X Y pc L (vI i :: vR k :: st) M P := by
  intro H locs ls h1 h2 h3
  have h := kk H locs ls h1 h2 h3
  have hz := shp_lt hs
  refine va_lald hC.x hC.b hC.K h1 k 1 (n := z) (f := fun j => Int64.ofInt (M k j)) (by rw [wl_get (hC.n hk), ceS_J hs]) rfl (i32_in hi hz) d ?_
  rw [i32_clamp (by omega)]
  exact h
theorem G_zaload {k z : Nat} {i : Int} (hC : OK X Y cc own nL rt fr lo nm) (hs : shp k = (13, z)) (hk : k < nm) (hi : 0 ≤ i ∧ i < z) (d : decode cc pc = .ok (.baload, 1)) (kk : G X Y (pc + 1) L (vI (M k i.toNat) :: st) M P) : G X Y pc L (vI i :: vR k :: st) M P := by
  intro H locs ls h1 h2 h3
  have h := kk H locs ls h1 h2 h3
  have hz := shp_lt hs
  refine va_zald hC.x hC.b hC.K h1 k 2 (n := z) (f := fun j => Int32.ofInt (M k j)) (by rw [wl_get (hC.n hk), ceS_Z hs]) rfl (i32_in hi hz) d ?_
  rw [i32_clamp (by omega)]
  exact h
theorem G_iastore {k z : Nat} {i v : Int} (hC : OK X Y cc own nL rt fr lo nm) (hs : shp k = (11, z)) (hk : k < nm) (hi : 0 ≤ i ∧ i < z) (d : decode cc pc = .ok (.iastore, 1)) (kk : G X Y (pc + 1) L st (upM M k i.toNat v) P) : G X Y pc L (vI v :: vI i :: vR k :: st) M P := by
  intro H locs ls h1 h2 h3
  have hz := shp_lt hs
  have hkn := hC.n hk
  refine va_iast hC.x hC.b hC.K h1 (hC.D (M := M) (P := P)) h2 k 0 (n := z) (f := fun j => Int32.ofInt (M k j)) (by rw [wl_get hkn, ceS_I hs]) rfl (i32_in hi hz) d (fun H1 locs1 q1 q2 q3 => ?_)
  refine kk H1 locs1 ls ?_ q3 h3
  rw [i32_clamp (by omega), show upd (fun j => Int32.ofInt (M k j)) i.toNat (Int32.ofInt v) = (fun j => Int32.ofInt (upM M k i.toNat v k j)) from by
    funext j; by_cases hj : j = i.toNat
    · subst hj; simp [upd, upM]
    · simp [upd, upM, hj], ← ceS_I (cy := xcy X) (ad := ya Y) (M := upM M k i.toNat v) (P := P) hs, wl_set hkn (fun a ha => ce_congr (upM_ne ha) (fun _ => rfl))] at q1
  exact q1
theorem G_lastore {k z : Nat} {i v : Int} (hC : OK X Y cc own nL rt fr lo nm) (hs : shp k = (12, z)) (hk : k < nm) (hi : 0 ≤ i ∧ i < z) (d : decode cc pc = .ok (.lastore, 1)) (kk : G X Y (pc + 1) L st (upM M k i.toNat v) P) : G X Y pc L (vL v :: vI i :: vR k :: st) M P := by
  intro H locs ls h1 h2 h3
  have hz := shp_lt hs
  have hkn := hC.n hk
  refine va_last hC.x hC.b hC.K h1 (hC.D (M := M) (P := P)) h2 k 1 (n := z) (f := fun j => Int64.ofInt (M k j)) (by rw [wl_get hkn, ceS_J hs]) rfl (i32_in hi hz) d (fun H1 locs1 q1 q2 q3 => ?_)
  refine kk H1 locs1 ls ?_ q3 h3
  rw [i32_clamp (by omega), show vp_updL (fun j => Int64.ofInt (M k j)) i.toNat (Int64.ofInt v) = (fun j => Int64.ofInt (upM M k i.toNat v k j)) from by
    funext j; by_cases hj : j = i.toNat
    · subst hj; simp [vp_updL, upM]
    · simp [vp_updL, upM, hj], ← ceS_J (cy := xcy X) (ad := ya Y) (M := upM M k i.toNat v) (P := P) hs, wl_set hkn (fun a ha => ce_congr (upM_ne ha) (fun _ => rfl))] at q1
  exact q1
theorem G_zastore {k z : Nat} {i v : Int} (hC : OK X Y cc own nL rt fr lo nm) (hs : shp k = (13, z)) (hk : k < nm) (hi : 0 ≤ i ∧ i < z) (hv : v = 0 ∨ v = 1) (d : decode cc pc = .ok (.bastore, 1)) (kk : G X Y (pc + 1) L st (upM M k i.toNat v) P) : G X Y pc L (vI v :: vI i :: vR k :: st) M P := by
  intro H locs ls h1 h2 h3
  have hz := shp_lt hs
  have hkn := hC.n hk
  refine va_zast hC.x hC.b hC.K h1 (hC.D (M := M) (P := P)) h2 k 2 (n := z) (f := fun j => Int32.ofInt (M k j)) (by rw [wl_get hkn, ceS_Z hs]) rfl (i32_in hi hz) d (fun H1 locs1 q1 q2 q3 => ?_)
  refine kk H1 locs1 ls ?_ q3 h3
  have e : vp_nar .boolean (Int32.ofInt v) = Int32.ofInt v := by rcases hv with rfl | rfl <;> rfl
  rw [e, i32_clamp (by omega), show upd (fun j => Int32.ofInt (M k j)) i.toNat (Int32.ofInt v) = (fun j => Int32.ofInt (upM M k i.toNat v k j)) from by
    funext j; by_cases hj : j = i.toNat
    · subst hj; simp [upd, upM]
    · simp [upd, upM, hj], ← ceS_Z (cy := xcy X) (ad := ya Y) (M := upM M k i.toNat v) (P := P) hs, wl_set hkn (fun a ha => ce_congr (upM_ne ha) (fun _ => rfl))] at q1
  exact q1
theorem G_alen {k c z : Nat} (hC : OK X Y cc own nL rt fr lo nm) (hs : shp k = (c, z)) (hc : c = 11 ∨ c = 12) (hk : k < nm) (d : decode cc pc = .ok (.arraylength, 1)) (kk : G X Y (pc + 1) L (vI z :: st) M P) : G X Y pc L (vR k :: st) M P := by
  intro H locs ls h1 h2 h3
  have h := kk H locs ls h1 h2 h3
  have hz := shp_lt hs
  rcases hc with rfl | rfl
  · exact va_alen hC.x hC.b hC.K h1 k 0 (x := (z, .inl (fun j => Int32.ofInt (M k j)))) (by rw [wl_get (hC.n hk), ceS_I hs]) rfl (by rw [i32_N _ hz]; rfl) d h
  · exact va_alen hC.x hC.b hC.K h1 k 1 (x := (z, .inr (.inl (fun j => Int64.ofInt (M k j))))) (by rw [wl_get (hC.n hk), ceS_J hs]) rfl (by rw [i32_N _ hz]; rfl) d h
/-! answers -/
def RQ (X : CX) (n' mc ms : Nat) (Q : Option AV → Mem → PMem → Prop) : Prop := ∃ Qc, xQ X = MQ (xbelow X) Qc (xargs X) (xs X) mc ms (xA X) ∧ ∀ (ad' : Nat → Nat) (r : Option AV) (M : Mem) (P : PMem) (H : Heap) (locs : List Loc), Q r M P → injA ad' n' → (∀ k, k < xn X → ad' k = xad X k) → (∀ k, xn X ≤ k → k < n' → (xs X).heap.size ≤ ad' k) → (n' = xn X → ad' = xad X) → va_P (xD X) vwCl (wl (xcy X) ad' n' M P) H → va_S (xA X) (xs X).heap H locs → ∀ t : State, t.heap = H → (xs X).WarmedH t.vm → Qc (xargs X) (xs X) (.returned (r.map (cv ad'))) t
variable {Q : Option AV → Mem → PMem → Prop}
theorem G_iret {z : Int} (hC : OK X Y cc own nL (some .int) fr lo nm) (hQ : RQ X (yn Y) (yc Y) (ys Y) Q) (d : decode cc pc = .ok (.ireturn, 1)) (h : Q (some (vI z)) M P) : G X Y pc L [vI z] M P := by
  intro H locs ls h1 h2 h3
  obtain ⟨Qc, e, hq⟩ := hQ
  show W _ _ _ _ _ _ _ _ _ _ _ _ _ _ (xQ X) _
  rw [e]
  exact W.iret (v := Int32.ofInt z) hC.x hC.b hC.r (fun t ht hW => hq (ya Y) (some (vI z)) M P H locs h hC.2.2.1.1 hC.2.2.2.2.2.1 hC.2.2.2.2.2.2.1 hC.2.2.2.2.2.2.2 h1 h2 t ht hW) h2.2.2 d hC.1.2.2.2.2.2
theorem G_zret {z : Int} (hC : OK X Y cc own nL (some .boolean) fr lo nm) (hQ : RQ X (yn Y) (yc Y) (ys Y) Q) (d : decode cc pc = .ok (.ireturn, 1)) (hz : z = 0 ∨ z = 1) (h : Q (some (vI z)) M P) : G X Y pc L [vI z] M P := by
  intro H locs ls h1 h2 h3
  obtain ⟨Qc, e, hq⟩ := hQ
  show W _ _ _ _ _ _ _ _ _ _ _ _ _ _ (xQ X) _
  rw [e]
  exact W.zret (v := Int32.ofInt z) hC.x hC.b hC.r (by rcases hz with rfl | rfl <;> rfl) (fun t ht hW => hq (ya Y) (some (vI z)) M P H locs h hC.2.2.1.1 hC.2.2.2.2.2.1 hC.2.2.2.2.2.2.1 hC.2.2.2.2.2.2.2 h1 h2 t ht hW) h2.2.2 d hC.1.2.2.2.2.2
theorem G_lret {z : Int} (hC : OK X Y cc own nL (some .long) fr lo nm) (hQ : RQ X (yn Y) (yc Y) (ys Y) Q) (d : decode cc pc = .ok (.lreturn, 1)) (h : Q (some (vL z)) M P) : G X Y pc L [vL z] M P := by
  intro H locs ls h1 h2 h3
  obtain ⟨Qc, e, hq⟩ := hQ
  show W _ _ _ _ _ _ _ _ _ _ _ _ _ _ (xQ X) _
  rw [e]
  exact W.lret (v := Int64.ofInt z) hC.x hC.b hC.r (fun t ht hW => hq (ya Y) (some (vL z)) M P H locs h hC.2.2.1.1 hC.2.2.2.2.2.1 hC.2.2.2.2.2.2.1 hC.2.2.2.2.2.2.2 h1 h2 t ht hW) h2.2.2 d hC.1.2.2.2.2.2
theorem G_vret (hC : OK X Y cc own nL none fr lo nm) (hQ : RQ X (yn Y) (yc Y) (ys Y) Q) (d : decode cc pc = .ok (.return_, 1)) (h : Q none M P) : G X Y pc L [] M P := by
  intro H locs ls h1 h2 h3
  obtain ⟨Qc, e, hq⟩ := hQ
  show W _ _ _ _ _ _ _ _ _ _ _ _ _ _ (xQ X) _
  rw [e]
  exact W.vret hC.x hC.b hC.r (fun t ht hW => hq (ya Y) none M P H locs h hC.2.2.1.1 hC.2.2.2.2.2.1 hC.2.2.2.2.2.2.1 hC.2.2.2.2.2.2.2 h1 h2 t ht hW) h2.2.2 d hC.1.2.2.2.2.2
end LAY5
