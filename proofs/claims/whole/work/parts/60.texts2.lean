/-! the text constant, and the calls on it -/
def strL : List Nat := [100, 51, 59, 103, 48, 44, 48, 44, 50, 59, 103, 48, 44, 49, 44, 52, 59, 103, 48, 44, 50, 44, 49, 59]
def strN (k : Nat) : Nat := strL.getD k 0
theorem strN_lt : ∀ k, k < 24 → strN k < 128 := by decide +kernel
def fmV : Bool → AV
  | true => vR 1003
  | false => vX 1
abbrev txS : String := "d3;g0,0,2;g0,1,4;g0,2,1;"
def ZS (fm : Bool) (ad : Nat → Nat) (A : Nat → Prop) (U : State) (H : Heap) : Prop :=
  vk_R RX9 92 txS (ad 1001) U ∧ va_O "java/lang/String" (ad 1001) A U H ∧ va_OF "java/lang/String" "coder" "B" (cv ad (vI 0)) (ad 1001) A U H ∧ va_OF "java/lang/String" "value" "[B" (cv ad (vR 1002)) (ad 1001) A U H ∧ va_T .byte (ad 1002) 24 (fun j => .int (Int32.ofInt (strN j))) A U H ∧ va_Z "java/lang/String" "COMPACT_STRINGS" "Z" (cv ad (vI 1)) A U H ∧ va_Z "jdk/internal/util/Preconditions" "SIOOBE_FORMATTER" "Ljava/util/function/BiFunction;" (cv ad (fmV fm)) A U H
theorem ZS.ad {fm : Bool} {ad ad' : Nat → Nat} {A : Nat → Prop} {U : State} {H : Heap} (h : ZS fm ad A U H) (e : ∀ k, 1000 ≤ k → ad' k = ad k) : ZS fm ad' A U H := by
  obtain ⟨h1, h2, h3, h4, h5, h6, h7⟩ := h
  have e1 := e 1001 (by omega)
  have e2 := e 1002 (by omega)
  have e3 : cv ad' (vR 1002) = cv ad (vR 1002) := by show Value.ref (ad' 1002) = Value.ref (ad 1002); rw [e2]
  have e4 : cv ad' (fmV fm) = cv ad (fmV fm) := by
    cases fm
    · rfl
    · show Value.ref (ad' 1003) = Value.ref (ad 1003); rw [e 1003 (by omega)]
  unfold ZS
  rw [e1, e2, e3, e4]
  exact ⟨h1, h2, h3, h4, h5, h6, h7⟩
theorem ZS.go {fm : Bool} {ad : Nat → Nat} {A B : Nat → Prop} {s U : State} {H : Heap} (h : ZS fm ad A s s.heap) (hq : ∀ a : Nat, a < s.heap.size → ¬ A a → H[a]? = s.heap[a]?) (hAB : ∀ q, B q → A q) (hU : U.heap = H) (hW : s.WarmedH U.vm) : ZS fm ad B U U.heap := by
  obtain ⟨h1, h2, h3, h4, h5, h6, h7⟩ := h
  rw [hU]
  exact ⟨vk_R.warm hW h1, va_O.moved hW.alike ((h2.kept hq).narrow hAB), va_OF.moved hW.alike ((h3.kept hq).narrow hAB), va_OF.moved hW.alike ((h4.kept hq).narrow hAB), va_T.moved hW.alike ((h5.kept hq).narrow hAB), va_Z.moved hW.alike ((h6.kept hq).narrow hAB), va_Z.moved hW.alike ((h7.kept hq).narrow hAB)⟩
theorem ZS.same {fm : Bool} {ad : Nat → Nat} {A : Nat → Prop} {u U : State} {H : Heap} (hv : U.vm = u.vm) (h : ZS fm ad A u H) : ZS fm ad A U H := by
  obtain ⟨h1, h2, h3, h4, h5, h6, h7⟩ := h
  have ha : u.vm.Alike U.vm := by rw [hv]; exact Vm.Alike.refl u.vm
  exact ⟨vk_R.same hv h1, va_O.moved ha h2, va_OF.moved ha h3, va_OF.moved ha h4, va_T.moved ha h5, va_Z.moved ha h6, va_Z.moved ha h7⟩
def PcZ (fm : Bool) (D : va_G) (cy : CYT) (ad : Nat → Nat) (n sz : Nat) (as : List AV) (M : Mem) (P : PMem) : Array Value → State → Prop := va_Pc (as.map (cv ad)) (fun U => U.heap.size = sz ∧ HdS D cy ad n M P U ∧ ZS fm ad (aA ad n sz) U U.heap)
/-- a contract that needs the text constant -/
def CtZ (fm : Bool) (l : Launch) (y : MethodName) (cc : ByteArray) (nL : Nat) (rt : Option FieldType) (fr lo mc ms n n' : Nat) (as : List AV) (M : Mem) (P : PMem) (Q : Option AV → Mem → PMem → Prop) : Prop :=
  ∀ (D : va_G) (cy : CYT) (ad : Nat → Nat) (sz : Nat), Met l y (Cond.code y cc nL rt :: lwG) { frames := fr, cells := mc, slots := ms, locals := lo } (PcZ fm D cy ad n sz as M P) (QcA D cy ad n n' sz Q) mc ms (aA ad n sz)
theorem CtZ_of {fm : Bool} {l : Launch} {y : MethodName} {cc : ByteArray} {nL : Nat} {rt : Option FieldType} {fr lo mc ms n n' nm : Nat} {as L : List AV} {M : Mem} {P : PMem} {Q : Option AV → Mem → PMem → Prop} {own : String} (hy : plainName y.cls = true) (ho : y.cls = own) (hL : L = entL as ++ List.replicate (nL - (entL as).length) (vX 1)) (hlen : (entL as).length ≤ nL) (hnm : nm ≤ n)
    (body : ∀ (X : CX) (ad : Nat → Nat), xl X = l → (xmeth X).name = y.name → (xR X).cells = mc → (xR X).slots = ms → ZS fm ad (xA X) (xs X) (xs X).heap → OK X (ad, n, 0, 0) cc own nL rt fr lo nm → RQ X n' mc ms Q → G X (ad, n, 0, 0) 0 L [] M P) : CtZ fm l y cc nL rt fr lo mc ms n n' as M P Q := by
  intro D cy ad sz
  refine Met.ofW (cc := cc) (maxL := nL) (ret := rt) hy rfl ?_
  intro p e s m args below meth c s₁ B hml hv
  obtain ⟨rfl, hsz, ⟨hP, hK, hN, hi⟩, hZ⟩ := hv
  subst hsz
  have hts := atoms_spec (ws := Cond.code y cc nL rt :: lwG) B.pre
  have hown : s.vm.findClass own = some m.cls := by rw [← ho]; exact findClass_of_methodNamed B.named
  have hname : meth.name = y.name := (name_of_methodNamed B.named B.method).1
  let X : CX := ((p, l, e, (headSpec (Cond.code y cc nL rt :: lwG) { frames := fr, cells := mc, slots := ms, locals := lo }).room, s, m, (as.map (cv ad)).toArray, below), (meth, c, D, cy), (aA ad n s.heap.size, MQ below (QcA D cy ad n n' s.heap.size Q) (as.map (cv ad)).toArray s mc ms (aA ad n s.heap.size), ad, n))
  have hb := body X ad rfl hname rfl rfl hZ ⟨⟨B.exec, B.bytes, hown, hml, B.returns, B.notSynchronized⟩, ⟨fun w hw => hts w (List.mem_cons_of_mem _ hw), hN, hK⟩, ⟨hi, aA_A.1, aA_A.2⟩, ⟨rfl, rfl, Nat.zero_le _, Nat.zero_le _, hnm⟩, ⟨Nat.le_refl _, fun _ _ => rfl, fun k h1 h2 => absurd h2 (by show ¬ k < n; exact Nat.not_lt.mpr h1), fun _ => rfl⟩⟩
    ⟨QcA D cy ad n n' s.heap.size Q, rfl, fun ad' r M' P' H locs hq hi' h1 h2 h4 hP' hS t ht hW => ⟨⟨ad', r, M', P', rfl, hq, ⟨by rw [ht]; exact hP', va_K.moved hW.alike hK, lwN_warm hW hN, hi'⟩, h1, h2, h4⟩, hS.F ht⟩⟩
  have hw := hb s.heap [] ((lg_sl (as.map (cv ad)) ++ List.replicate (nL - (lg_sl (as.map (cv ad))).length) Slot.unset).toArray) hP va_S.rf (LH_entry hL hlen)
  rw [lg_entry_eq]
  exact hw
theorem blindZ {fm : Bool} {D : va_G} {cy : CYT} {ad : Nat → Nat} {n sz : Nat} {as : List AV} {M : Mem} {P : PMem} : FrameBlind (PcZ fm D cy ad n sz as M P) := by
  intro a U g mk q
  obtain ⟨q0, q1, ⟨q2, q3, q4, q5⟩, q6⟩ := q
  exact ⟨q0, q1, ⟨q2, va_K.moved (u := U) (U := U.calling g mk a) (Vm.Alike.refl U.vm) q3, lwN_same (s := U) (U := U.calling g mk a) rfl q4, q5⟩, ZS.same (u := U) (U := U.calling g mk a) rfl q6⟩
def MZ (own : String) (idx : Nat) (y : MethodName) (cc : ByteArray) (nL : Nat) (rt : Option FieldType) (na : Nat) : Prop := ML own idx y cc nL rt na ∧ Cond.instanceMethod y ∈ lwG ∧ Cond.selects y.cls y y ∈ lwG ∧ y.cls = "java/lang/String"
section STRS
variable {fm : Bool} {X : CX} {Y : CY} {cc : ByteArray} {own : String} {nL : Nat} {rt : Option FieldType} {fr lo nm : Nat} {pc : Nat} {L st : List AV} {M : Mem} {P : PMem} {Q : Option AV → Mem → PMem → Prop}
theorem Z_at (hC : OK X Y cc own nL rt fr lo nm) (hz : ZS fm (ya Y) (xA X) (xs X) (xs X).heap) {H : Heap} {locs : List Loc} (h2 : va_S (xA X) (xs X).heap H locs) {U : State} (hU : U.heap = H) (hW : (xs X).WarmedH U.vm) : ZS fm (ya Y) (aA (ya Y) (yn Y) H.size) U U.heap :=
  hz.go h2.2.1 (fun q h => aA_xA hC h2.1 q h) hU hW
theorem G_runZV {H : Heap} {locs : List Loc} {ls : Array Slot} {y : MethodName} {cc' : ByteArray} {nL' : Nat} {rt' : Option FieldType} {fr' lo' mc ms n' na idx : Nat} {as : List AV} (hC : OK X Y cc own nL rt fr lo nm) (hz : ZS fm (ya Y) (xA X) (xs X) (xs X).heap) (hct : CtZ fm (xl X) y cc' nL' rt' fr' lo' mc ms (yn Y) n' (vR 1001 :: as) M P Q) (hm : MZ own idx y cc' nL' rt' na) (ha : as.length = na) (hR : fr' + 1 ≤ fr ∧ 8 + (nL' + 11) + lo' ≤ lo) (hst : c2s st ≤ 8) (hc : yc Y + mc ≤ (xR X).cells) (hsl : ys Y + ms ≤ (xR X).slots) (hls : ls.size = nL) (d : decode cc pc = .ok (.invokevirtual idx, 3)) (h1 : va_P (xD X) vwCl (wl (xcy X) (ya Y) (yn Y) M P) H) (h2 : va_S (xA X) (xs X).heap H locs) :
    va_Run (xp X) (xl X) (xe X) (xR X) (xs X) (xm X) (xargs X) (xbelow X) (xmeth X) (xc X) H locs (yc Y) (ys Y) mc ms (F0 (xm X) pc ls ((as.reverse ++ vR 1001 :: st).map (cv (ya Y)))) (st.map (cv (ya Y))) (QcA (xD X) (xcy X) (ya Y) (yn Y) n' H.size Q ((vR 1001 :: as).map (cv (ya Y))).toArray) (aA (ya Y) (yn Y) H.size) := by
  obtain ⟨⟨⟨hd1, hd2, hd3⟩, hcode, hini, hlink⟩, hinst, hsel, hcls⟩ := hm
  have hrecv : ∃ cell : Cell, H[ya Y 1001]? = some cell ∧ cell.vm.isStatics = false ∧ (xs X).vm.findClass y.cls = some cell.cls := by
    obtain ⟨cell, g1, g2, g3, -⟩ := hz.2.1.kept h2.2.1
    exact ⟨cell, g1, g2, by rw [hcls]; exact g3⟩
  have hR' : fr' + 1 ≤ (xR X).frames ∧ 8 + (nL' + 11) + lo' ≤ (xR X).locals := by
    rw [hC.2.2.2.1.1, hC.2.2.2.1.2.1]; exact hR
  have hp : PreV (xs X) H y.cls (ya Y 1001) (PcZ fm (xD X) (xcy X) (ya Y) (yn Y) H.size (vR 1001 :: as) M P) (as.map (cv (ya Y))) :=
    ⟨blindZ, hrecv, fun U hU hW => ⟨rfl, by rw [hU], HdS.warm (by rw [hU]; exact h1) hC.K hC.2.1.2.1 hC.2.2.1.1 hW, Z_at hC hz h2 hU hW⟩⟩
  have hstk : (F0 (xm X) pc ls ((as.reverse ++ vR 1001 :: st).map (cv (ya Y)))).stack = (as.map (cv (ya Y))).reverse ++ .ref (ya Y 1001) :: st.map (cv (ya Y)) := by
    show (as.reverse ++ vR 1001 :: st).map (cv (ya Y)) = _
    rw [List.map_append, List.map_reverse]; rfl
  have hW8 : 2 * (F0 (xm X) pc ls ((as.reverse ++ vR 1001 :: st).map (cv (ya Y)))).monitorRoom + ((st.map (cv (ya Y))).map fun v => v.category).sum ≤ 8 := lv_room (by rw [c2s_ok]; exact hst)
  rcases hlink with hl | ⟨host, hl⟩
  · exact va_runV (C := y.cls) ⟨hC.x, hC.b, hC.1.2.2.2.1, hC.o, hC.w⟩ (hct (xD X) (xcy X) (ya Y) H.size) ⟨callB_of na hC.w (good_cons hcode) rfl rfl rfl (hC.w _ hini) (hC.w _ hl) ⟨hd1, hd2, hd3⟩ hR', hC.w _ hinst, hC.w _ hsel⟩ hp rfl (by rw [List.length_map]; exact ha) hls hstk hW8 d ⟨hc, hsl⟩
  · exact va_runVN (C := y.cls) ⟨hC.x, hC.b, hC.1.2.2.2.1, hC.o, hC.w⟩ (hct (xD X) (xcy X) (ya Y) H.size) ⟨va_cnB na hC.w (good_cons hcode) rfl rfl rfl (hC.2.1.2.1 _ hl) (hC.w _ hini) ⟨hd1, hd2, hd3⟩ hR', hC.w _ hinst, hC.w _ hsel⟩ hp rfl (by rw [List.length_map]; exact ha) hls hstk hW8 d ⟨hc, hsl⟩
theorem G_runZS {H : Heap} {locs : List Loc} {ls : Array Slot} {y : MethodName} {cc' : ByteArray} {nL' : Nat} {rt' : Option FieldType} {fr' lo' mc ms n' na idx : Nat} {as : List AV} (hC : OK X Y cc own nL rt fr lo nm) (hz : ZS fm (ya Y) (xA X) (xs X) (xs X).heap) (hct : CtZ fm (xl X) y cc' nL' rt' fr' lo' mc ms (yn Y) n' as M P Q) (hm : MS own idx y cc' nL' rt' na) (ha : as.length = na) (hR : fr' + 1 ≤ fr ∧ 8 + (nL' + 11) + lo' ≤ lo) (hst : c2s st ≤ 8) (hc : yc Y + mc ≤ (xR X).cells) (hsl : ys Y + ms ≤ (xR X).slots) (hls : ls.size = nL) (d : decode cc pc = .ok (.invokestatic idx, 3)) (h1 : va_P (xD X) vwCl (wl (xcy X) (ya Y) (yn Y) M P) H) (h2 : va_S (xA X) (xs X).heap H locs) :
    va_Run (xp X) (xl X) (xe X) (xR X) (xs X) (xm X) (xargs X) (xbelow X) (xmeth X) (xc X) H locs (yc Y) (ys Y) mc ms (F0 (xm X) pc ls ((as.reverse ++ st).map (cv (ya Y)))) (st.map (cv (ya Y))) (QcA (xD X) (xcy X) (ya Y) (yn Y) n' H.size Q (as.map (cv (ya Y))).toArray) (aA (ya Y) (yn Y) H.size) := by
  obtain ⟨⟨⟨hd1, hd2, hd3⟩, hcode, hini, hlink⟩, hstat⟩ := hm
  have hR' : fr' + 1 ≤ (xR X).frames ∧ 8 + (nL' + 11) + lo' ≤ (xR X).locals := by
    rw [hC.2.2.2.1.1, hC.2.2.2.1.2.1]; exact hR
  have hp : PreS (xs X) H (PcZ fm (xD X) (xcy X) (ya Y) (yn Y) H.size as M P) (as.map (cv (ya Y))) :=
    ⟨blindZ, fun U hU hW => ⟨rfl, by rw [hU], HdS.warm (by rw [hU]; exact h1) hC.K hC.2.1.2.1 hC.2.2.1.1 hW, Z_at hC hz h2 hU hW⟩⟩
  have hstk : (F0 (xm X) pc ls ((as.reverse ++ st).map (cv (ya Y)))).stack = (as.map (cv (ya Y))).reverse ++ st.map (cv (ya Y)) := by
    show (as.reverse ++ st).map (cv (ya Y)) = _
    rw [List.map_append, List.map_reverse]
  have hW8 : 2 * (F0 (xm X) pc ls ((as.reverse ++ st).map (cv (ya Y)))).monitorRoom + ((st.map (cv (ya Y))).map fun v => v.category).sum ≤ 8 := lv_room (by rw [c2s_ok]; exact hst)
  rcases hlink with hl | ⟨host, hl⟩
  · exact va_runS ⟨hC.x, hC.b, hC.1.2.2.2.1, hC.o, hC.w⟩ (hct (xD X) (xcy X) (ya Y) H.size) ⟨callB_of na hC.w (good_cons hcode) rfl rfl rfl (hC.w _ hini) (hC.w _ hl) ⟨hd1, hd2, hd3⟩ hR', hC.w _ hstat⟩ hp rfl (by rw [List.length_map]; exact ha) hls hstk hW8 d ⟨hc, hsl⟩
  · exact va_runSN ⟨hC.x, hC.b, hC.1.2.2.2.1, hC.o, hC.w⟩ (hct (xD X) (xcy X) (ya Y) H.size) ⟨va_cnB na hC.w (good_cons hcode) rfl rfl rfl (hC.2.1.2.1 _ hl) (hC.w _ hini) ⟨hd1, hd2, hd3⟩ hR', hC.w _ hstat, trivial⟩ hp rfl (by rw [List.length_map]; exact ha) hls hstk hW8 d ⟨hc, hsl⟩
theorem G_callZV {stk : List AV} {y : MethodName} {cc' : ByteArray} {nL' : Nat} {rt' : Option FieldType} {fr' lo' na idx : Nat} {as : List AV} (hC : OK X Y cc own nL rt fr lo nm) (hz : ZS fm (ya Y) (xA X) (xs X) (xs X).heap) (hct : CtZ fm (xl X) y cc' nL' rt' fr' lo' 0 0 (yn Y) (yn Y) (vR 1001 :: as) M P Q) (hm : MZ own idx y cc' nL' rt' na) (ha : as.length = na) (hR : fr' + 1 ≤ fr ∧ 8 + (nL' + 11) + lo' ≤ lo) (hst : c2s st ≤ 8) (hln : L.length = nL) (d : decode cc pc = .ok (.invokevirtual idx, 3)) (hk : stk = as.reverse ++ vR 1001 :: st) (kk : ∀ r M' P', Q r M' P' → G X Y (pc + 3) L (r.toList ++ st) M' P') : G X Y pc L stk M P := by
  subst hk
  intro H locs ls h1 h2 h3
  have hcc : yc Y + 0 ≤ (xR X).cells := hC.2.2.2.1.2.2.1
  have hss : ys Y + 0 ≤ (xR X).slots := hC.2.2.2.1.2.2.2.1
  refine G_back hC (G_runZV hC hz hct hm ha hR hst hcc hss (h3.1.trans hln) d h1 h2) h2 hcc hss (Nat.le_refl _) (fun ad' r M' P' H1 locs1 hq hx hx3 hOK q1 q2 => ?_)
  have e := hx3 rfl
  subst e
  rw [map_ret]
  exact kk r M' P' hq H1 locs1 ls q1 q2 h3
theorem G_callZS {stk : List AV} {y : MethodName} {cc' : ByteArray} {nL' : Nat} {rt' : Option FieldType} {fr' lo' na idx : Nat} {as : List AV} (hC : OK X Y cc own nL rt fr lo nm) (hz : ZS fm (ya Y) (xA X) (xs X) (xs X).heap) (hct : CtZ fm (xl X) y cc' nL' rt' fr' lo' 0 0 (yn Y) (yn Y) as M P Q) (hm : MS own idx y cc' nL' rt' na) (ha : as.length = na) (hR : fr' + 1 ≤ fr ∧ 8 + (nL' + 11) + lo' ≤ lo) (hst : c2s st ≤ 8) (hln : L.length = nL) (d : decode cc pc = .ok (.invokestatic idx, 3)) (hk : stk = as.reverse ++ st) (kk : ∀ r M' P', Q r M' P' → G X Y (pc + 3) L (r.toList ++ st) M' P') : G X Y pc L stk M P := by
  subst hk
  intro H locs ls h1 h2 h3
  have hcc : yc Y + 0 ≤ (xR X).cells := hC.2.2.2.1.2.2.1
  have hss : ys Y + 0 ≤ (xR X).slots := hC.2.2.2.1.2.2.2.1
  refine G_back hC (G_runZS hC hz hct hm ha hR hst hcc hss (h3.1.trans hln) d h1 h2) h2 hcc hss (Nat.le_refl _) (fun ad' r M' P' H1 locs1 hq hx hx3 hOK q1 q2 => ?_)
  have e := hx3 rfl
  subst e
  rw [map_ret]
  exact kk r M' P' hq H1 locs1 ls q1 q2 h3
theorem G_sget {idx : Nat} {o n de : String} {v : AV} (hC : OK X Y cc own nL rt fr lo nm) (hE : va_OF o n de (cv (ya Y) v) (ya Y 1001) (xA X) (xs X) (xs X).heap) (hw : Cond.fieldLink own idx o n de ∈ lwG) (d : decode cc pc = .ok (.getfield idx, 3)) (kk : G X Y (pc + 3) L (v :: st) M P) : G X Y pc L (vR 1001 :: st) M P :=
  fun H locs ls h1 h2 h3 => vk_getf hC.x hC.b hE h2 hC.o (hC.w _ hw) (fun _ h => h) d (kk H locs ls h1 h2 h3)
theorem G_sstat {idx : Nat} {o n de : String} {v : AV} (hC : OK X Y cc own nL rt fr lo nm) (hE : va_Z o n de (cv (ya Y) v) (xA X) (xs X) (xs X).heap) (hw : Cond.fieldLink own idx o n de ∈ lwG) (d : decode cc pc = .ok (.getstatic idx, 3)) (kk : G X Y (pc + 3) L (v :: st) M P) : G X Y pc L st M P :=
  fun H locs ls h1 h2 h3 => va_gets hC.x hC.b hE h2 hC.o (hC.w _ hw) (fun _ h => h) d (kk H locs ls h1 h2 h3)
theorem G_slen {f : Nat → Value} (hC : OK X Y cc own nL rt fr lo nm) (hE : va_T .byte (ya Y 1002) 24 f (xA X) (xs X) (xs X).heap) (d : decode cc pc = .ok (.arraylength, 1)) (kk : G X Y (pc + 1) L (vI 24 :: st) M P) : G X Y pc L (vR 1002 :: st) M P :=
  fun H locs ls h1 h2 h3 => va_tlen hC.x hC.b hE h2 (by decide : Int32.ofNat 24 = Int32.ofInt 24) d (kk H locs ls h1 h2 h3)
theorem G_sbld {k : Nat} (hC : OK X Y cc own nL rt fr lo nm) (hE : va_T .byte (ya Y 1002) 24 (fun j => .int (Int32.ofInt (strN j))) (xA X) (xs X) (xs X).heap) (hk : k < 24) (d : decode cc pc = .ok (.baload, 1)) (kk : G X Y (pc + 1) L (vI (strN k) :: st) M P) : G X Y pc L (vI k :: vR 1002 :: st) M P := by
  intro H locs ls h1 h2 h3
  have hn := i32_nn (z := k) (by omega)
  exact va_tb (v := .int (Int32.ofInt (strN k))) hC.x hC.b hE h2 (by
    intro q
    rcases q with q | q
    · exact hn.1 q
    · rw [hn.2] at q; omega) (by show Value.int (Int32.ofInt (strN (Int32.ofInt (k : Int)).toNatClampNeg)) = _; rw [hn.2]) d (kk H locs ls h1 h2 h3)
theorem G_i2c {z : Int} (hC : OK X Y cc own nL rt fr lo nm) (hz : 0 ≤ z ∧ z < 65536) (d : decode cc pc = .ok (.i2c, 1)) (kk : G X Y (pc + 1) L (vI z :: st) M P) : G X Y pc L (vI z :: st) M P :=
  fun H locs ls h1 h2 h3 => lv_i2c hC.x hC.b d (lg_i2c_word (v := Int32.ofInt z) (by rw [i32_t (by omega)]; omega) (by rw [i32_t (by omega)]; omega)) (kk H locs ls h1 h2 h3)
theorem G_tret {z : Int} {ty : FieldType} (hC : OK X Y cc own nL (some ty) fr lo nm) (hQ : RQ X (yn Y) (yc Y) (ys Y) Q) (d : decode cc pc = .ok (.ireturn, 1)) (hz : narrow ty (.int (Int32.ofInt z)) = .int (Int32.ofInt z)) (h : Q (some (vI z)) M P) : G X Y pc L [vI z] M P := by
  intro H locs ls h1 h2 h3
  obtain ⟨Qc, e, hq⟩ := hQ
  show W _ _ _ _ _ _ _ _ _ _ _ _ _ _ (xQ X) _
  rw [e]
  exact W.zret (v := Int32.ofInt z) hC.x hC.b hC.r hz (fun t ht hW => hq (ya Y) (some (vI z)) M P H locs h hC.2.2.1.1 hC.2.2.2.2.2.1 hC.2.2.2.2.2.2.1 hC.2.2.2.2.2.2.2 h1 h2 t ht hW) h2.2.2 d hC.1.2.2.2.2.2
theorem G_ldcS {idx : Nat} {tx : String} (hC : OK X Y cc own nL rt fr lo nm) (hz : vk_R own idx tx (ya Y 1001) (xs X)) (d : decode cc pc = .ok (.ldc idx, 2)) (kk : G X Y (pc + 2) L (vR 1001 :: st) M P) : G X Y pc L st M P :=
  fun H locs ls h1 h2 h3 => va_ldcS hC.x hC.b hC.o hz d (kk H locs ls h1 h2 h3)
end STRS
theorem narC {z : Int} (h : 0 ≤ z ∧ z < 128) : narrow .char (.int (Int32.ofInt z)) = .int (Int32.ofInt z) := by
  obtain ⟨k, hk, rfl⟩ : ∃ k : Nat, k < 128 ∧ z = (k : Int) := ⟨z.toNat, by omega, by omega⟩
  have key : ∀ k, k < 128 → narrow .char (.int (Int32.ofInt ((k : Nat) : Int))) = .int (Int32.ofInt ((k : Nat) : Int)) := by decide +kernel
  exact key k hk
theorem mz_X9_94 : MZ RX9 94 yJ0_length_8abf5 cJ0_length_8abf5 1 (some .int) 0 := ⟨⟨⟨by decide +kernel, by decide +kernel, by decide +kernel⟩, cw_J0_length_8abf5, (lwG_in (List.mem_of_getElem? (i := 82) (by decide +kernel)) (by decide +kernel)), Or.inl (lwG_in (List.mem_of_getElem? (i := 351) (by decide +kernel)) (by decide +kernel))⟩, (lwG_in (List.mem_of_getElem? (i := 352) (by decide +kernel)) (by decide +kernel)), (lwG_in (List.mem_of_getElem? (i := 353) (by decide +kernel)) (by decide +kernel)), rfl⟩
theorem mz_X9_100 : MZ RX9 100 yJ0_charAt_5068e cJ0_charAt_5068e 2 (some .char) 1 := ⟨⟨⟨by decide +kernel, by decide +kernel, by decide +kernel⟩, cw_J0_charAt_5068e, (lwG_in (List.mem_of_getElem? (i := 82) (by decide +kernel)) (by decide +kernel)), Or.inl (lwG_in (List.mem_of_getElem? (i := 361) (by decide +kernel)) (by decide +kernel))⟩, (lwG_in (List.mem_of_getElem? (i := 362) (by decide +kernel)) (by decide +kernel)), (lwG_in (List.mem_of_getElem? (i := 363) (by decide +kernel)) (by decide +kernel)), rfl⟩
theorem mz_J0_335 : MZ RJ0 335 yJ0_coder_7d493 cJ0_coder_7d493 1 (some .byte) 0 := ⟨⟨⟨by decide +kernel, by decide +kernel, by decide +kernel⟩, cw_J0_coder_7d493, (lwG_in (List.mem_of_getElem? (i := 82) (by decide +kernel)) (by decide +kernel)), Or.inl (lwG_in (List.mem_of_getElem? (i := 355) (by decide +kernel)) (by decide +kernel))⟩, (lwG_in (List.mem_of_getElem? (i := 356) (by decide +kernel)) (by decide +kernel)), (lwG_in (List.mem_of_getElem? (i := 357) (by decide +kernel)) (by decide +kernel)), rfl⟩
theorem mz_J0_492 : MZ RJ0 492 yJ0_isLatin1_aae02 cJ0_isLatin1_aae02 1 (some .boolean) 0 := ⟨⟨⟨by decide +kernel, by decide +kernel, by decide +kernel⟩, cw_J0_isLatin1_aae02, (lwG_in (List.mem_of_getElem? (i := 82) (by decide +kernel)) (by decide +kernel)), Or.inl (lwG_in (List.mem_of_getElem? (i := 365) (by decide +kernel)) (by decide +kernel))⟩, (lwG_in (List.mem_of_getElem? (i := 366) (by decide +kernel)) (by decide +kernel)), (lwG_in (List.mem_of_getElem? (i := 367) (by decide +kernel)) (by decide +kernel)), rfl⟩
theorem fk_9 : Cond.fieldLink RJ0 9 "java/lang/String" "value" "[B" ∈ lwG := (lwG_in (List.mem_of_getElem? (i := 1354) (by decide +kernel)) (by decide +kernel))
theorem fk_15 : Cond.fieldLink RJ0 15 "java/lang/String" "coder" "B" ∈ lwG := (lwG_in (List.mem_of_getElem? (i := 1355) (by decide +kernel)) (by decide +kernel))
theorem fk_38 : Cond.fieldLink RJ0 38 "java/lang/String" "COMPACT_STRINGS" "Z" ∈ lwG := (lwG_in (List.mem_of_getElem? (i := 359) (by decide +kernel)) (by decide +kernel))
theorem fk_1053 : Cond.fieldLink RJ0 1053 "jdk/internal/util/Preconditions" "SIOOBE_FORMATTER" "Ljava/util/function/BiFunction;" ∈ lwG := (lwG_in (List.mem_of_getElem? (i := 375) (by decide +kernel)) (by decide +kernel))
def sQ (M : Mem) (P : PMem) (v : Int) : Option AV → Mem → PMem → Prop := fun r M' P' => r = some (vI v) ∧ M' = M ∧ P' = P
def sV (M : Mem) (P : PMem) : Option AV → Mem → PMem → Prop := fun r M' P' => r = none ∧ M' = M ∧ P' = P
set_option maxHeartbeats 4000000 in
set_option maxRecDepth 100000 in
theorem c_coder {fm : Bool} {l : Launch} {n : Nat}  {M : Mem} {P : PMem} : CtZ fm l yJ0_coder_7d493 cJ0_coder_7d493 1 (some .byte) 0 0 0 0 n n [vR 1001] M P (sQ M P 0) := by
  refine CtZ_of (own := RJ0) (L := [vR 1001]) (nm := 0) (by decide) rfl rfl (Nat.le_of_ble_eq_true rfl) (Nat.zero_le _) (fun X ad hl hnm hcl hsl hZ hC hQ => ?_)
  obtain ⟨z1, z2, z3, z4, z5, z6, z7⟩ := id hZ
  refine G_sstat (v := vI 1) hC z6 fk_38 dJ0_coder_7d493_0 ?_
  refine G_if_eq (tgt := 13) hC dJ0_coder_7d493_3 (by decide) (by omega) (fun c => absurd c (by omega)) (fun _ => ?_)
  refine G_al0 hC dJ0_coder_7d493_6 ?_
  refine G_sget (v := vI 0) hC z3 fk_15 dJ0_coder_7d493_7 ?_
  refine G_goto (tgt := 14) hC dJ0_coder_7d493_10 (by decide) ?_
  exact G_tret hC hQ dJ0_coder_7d493_14 (by decide) ⟨rfl, rfl, rfl⟩
set_option maxHeartbeats 4000000 in
set_option maxRecDepth 100000 in
theorem c_isLatin1 {fm : Bool} {l : Launch} {n : Nat}  {M : Mem} {P : PMem} : CtZ fm l yJ0_isLatin1_aae02 cJ0_isLatin1_aae02 1 (some .boolean) 0 0 0 0 n n [vR 1001] M P (sQ M P 1) := by
  refine CtZ_of (own := RJ0) (L := [vR 1001]) (nm := 0) (by decide) rfl rfl (Nat.le_of_ble_eq_true rfl) (Nat.zero_le _) (fun X ad hl hnm hcl hsl hZ hC hQ => ?_)
  obtain ⟨z1, z2, z3, z4, z5, z6, z7⟩ := id hZ
  refine G_sstat (v := vI 1) hC z6 fk_38 dJ0_isLatin1_aae02_0 ?_
  refine G_if_eq (tgt := 17) hC dJ0_isLatin1_aae02_3 (by decide) (by omega) (fun c => absurd c (by omega)) (fun _ => ?_)
  refine G_al0 hC dJ0_isLatin1_aae02_6 ?_
  refine G_sget (v := vI 0) hC z3 fk_15 dJ0_isLatin1_aae02_7 ?_
  refine G_if_ne (tgt := 17) hC dJ0_isLatin1_aae02_10 (by decide) (by omega) (fun c => absurd rfl c) (fun _ => ?_)
  refine G_iconst hC dJ0_isLatin1_aae02_13 ?_
  refine G_goto (tgt := 18) hC dJ0_isLatin1_aae02_14 (by decide) ?_
  exact G_zret hC hQ dJ0_isLatin1_aae02_18 (by omega) ⟨rfl, rfl, rfl⟩
set_option maxHeartbeats 4000000 in
set_option maxRecDepth 100000 in
theorem c_strlen {fm : Bool} {l : Launch} {n : Nat}  {M : Mem} {P : PMem} : CtZ fm l yJ0_length_8abf5 cJ0_length_8abf5 1 (some .int) 1 20 0 0 n n [vR 1001] M P (sQ M P 24) := by
  refine CtZ_of (own := RJ0) (L := [vR 1001]) (nm := 0) (by decide) rfl rfl (Nat.le_of_ble_eq_true rfl) (Nat.zero_le _) (fun X ad hl hnm hcl hsl hZ hC hQ => ?_)
  obtain ⟨z1, z2, z3, z4, z5, z6, z7⟩ := id hZ
  refine G_al0 hC dJ0_length_8abf5_0 ?_
  refine G_sget (v := vR 1002) hC z4 fk_9 dJ0_length_8abf5_1 ?_
  refine G_slen hC z5 dJ0_length_8abf5_4 ?_
  refine G_al0 hC dJ0_length_8abf5_5 ?_
  refine G_callZV hC hZ c_coder mz_J0_335 rfl (by decide) (Nat.le_of_ble_eq_true rfl) rfl dJ0_length_8abf5_6 rfl (fun r M' P' h => ?_)
  obtain ⟨rfl, rfl, rfl⟩ := h
  refine G_ishr hC dJ0_length_8abf5_9 ?_
  have e : bShr 24 0 = 24 := by decide
  rw [e]
  exact G_iret hC hQ dJ0_length_8abf5_10 ⟨rfl, rfl, rfl⟩
set_option maxHeartbeats 4000000 in
set_option maxRecDepth 100000 in
theorem c_preIndex {fm : Bool} {l : Launch} {k n : Nat} {M : Mem} {P : PMem} (hk : k < n) (hn : n ≤ 1000) : CtI l yJ3_checkIndex_8e157 cJ3_checkIndex_8e157 3 (some .int) 0 0 0 [vI k, vI n, fmV fm] M P (pI k M P) := by
  have go : ∀ v : AV, isC2 v = false → CtI l yJ3_checkIndex_8e157 cJ3_checkIndex_8e157 3 (some .int) 0 0 0 [vI k, vI n, v] M P (pI k M P) := by
    intro v hv
    have he : entL [vI (k : Int), vI (n : Int), v] = [vI (k : Int), vI (n : Int), v] := by
      show vI (k : Int) :: vI (n : Int) :: (if isC2 v = true then v :: vX 1 :: entL [] else v :: entL []) = _
      rw [hv]; rfl
    refine Ct_of (own := RJ3) (L := [vI k, vI n, v]) (by decide) rfl (by rw [he]; rfl) (by rw [he]; exact Nat.le_refl _) (fun X Y hl hC hQ => ?_)
    refine G_il0 hC dJ3_checkIndex_8e157_0 ?_
    refine G_if_lt (tgt := 9) hC dJ3_checkIndex_8e157_1 (by decide) (by omega) (fun c => absurd c (by omega)) (fun _ => ?_)
    refine G_il0 hC dJ3_checkIndex_8e157_4 ?_
    refine G_il1 hC dJ3_checkIndex_8e157_5 ?_
    refine G_icmp_lt (tgt := 16) hC dJ3_checkIndex_8e157_6 (by decide) (by omega) (by omega) (fun _ => ?_) (fun c => absurd c (by omega))
    refine G_il0 hC dJ3_checkIndex_8e157_16 ?_
    exact G_iret hC hQ dJ3_checkIndex_8e157_17 ⟨_, rfl, rfl, rfl, rfl⟩
  cases fm
  · exact go (fmV false) rfl
  · exact go (fmV true) rfl
set_option maxHeartbeats 4000000 in
set_option maxRecDepth 100000 in
theorem c_strIndex {fm : Bool} {l : Launch} {n : Nat} {k m : Nat} {M : Mem} {P : PMem} (hk : k < m) (hm : m ≤ 1000) : CtZ fm l yJ0_checkIndex_df160 cJ0_checkIndex_df160 2 none 1 22 0 0 n n [vI k, vI m] M P (sV M P) := by
  refine CtZ_of (own := RJ0) (L := [vI k, vI m]) (nm := 0) (by decide) rfl rfl (Nat.le_of_ble_eq_true rfl) (Nat.zero_le _) (fun X ad hl hnm hcl hsl hZ hC hQ => ?_)
  obtain ⟨z1, z2, z3, z4, z5, z6, z7⟩ := id hZ
  refine G_il0 hC dJ0_checkIndex_df160_0 ?_
  refine G_il1 hC dJ0_checkIndex_df160_1 ?_
  refine G_sstat (v := fmV fm) hC z7 fk_1053 dJ0_checkIndex_df160_2 ?_
  refine G_callSI hC (c_preIndex (fm := fm) (k := k) (n := m) hk hm) ms_J0_1059 (by decide) rfl (by decide) dJ0_checkIndex_df160_5 rfl (Nat.le_of_ble_eq_true rfl) rfl (fun z M' P' h => ?_)
  obtain ⟨rfl, rfl, rfl⟩ := h
  refine G_pop hC dJ0_checkIndex_df160_8 rfl ?_
  exact G_vret hC hQ dJ0_checkIndex_df160_9 ⟨rfl, rfl, rfl⟩
set_option maxHeartbeats 4000000 in
set_option maxRecDepth 100000 in
theorem c_latinAt {fm : Bool} {l : Launch} {n : Nat} {k : Nat} {M : Mem} {P : PMem} (hk : k < 24) : CtZ fm l yJ1_charAt_3b067 cJ1_charAt_3b067 2 (some .char) 2 43 0 0 n n [vR 1002, vI k] M P (sQ M P (strN k)) := by
  refine CtZ_of (own := RJ1) (L := [vR 1002, vI k]) (nm := 0) (by decide) rfl rfl (Nat.le_of_ble_eq_true rfl) (Nat.zero_le _) (fun X ad hl hnm hcl hsl hZ hC hQ => ?_)
  obtain ⟨z1, z2, z3, z4, z5, z6, z7⟩ := id hZ
  have hs := strN_lt k hk
  refine G_il1 hC dJ1_charAt_3b067_0 ?_
  refine G_al0 hC dJ1_charAt_3b067_1 ?_
  refine G_slen hC z5 dJ1_charAt_3b067_2 ?_
  refine G_callZS hC hZ (c_strIndex (k := k) (m := 24) hk (by omega)) ms_J1_9 rfl (by decide) (Nat.le_of_ble_eq_true rfl) rfl dJ1_charAt_3b067_3 rfl (fun r M' P' h => ?_)
  obtain ⟨rfl, rfl, rfl⟩ := h
  refine G_al0 hC dJ1_charAt_3b067_6 ?_
  refine G_il1 hC dJ1_charAt_3b067_7 ?_
  refine G_sbld hC z5 hk dJ1_charAt_3b067_8 ?_
  refine G_sipush hC dJ1_charAt_3b067_9 (by decide) ?_
  refine G_iand hC dJ1_charAt_3b067_12 ?_
  have e : bAnd (strN k : Int) 255 = (strN k : Int) := by rw [bAnd255]; omega
  rw [e]
  refine G_i2c hC (by omega) dJ1_charAt_3b067_13 ?_
  exact G_tret hC hQ dJ1_charAt_3b067_14 (narC (by omega)) ⟨rfl, rfl, rfl⟩
set_option maxHeartbeats 4000000 in
set_option maxRecDepth 100000 in
theorem c_strAt {fm : Bool} {l : Launch} {n : Nat} {k : Nat} {M : Mem} {P : PMem} (hk : k < 24) : CtZ fm l yJ0_charAt_5068e cJ0_charAt_5068e 2 (some .char) 3 64 0 0 n n [vR 1001, vI k] M P (sQ M P (strN k)) := by
  refine CtZ_of (own := RJ0) (L := [vR 1001, vI k]) (nm := 0) (by decide) rfl rfl (Nat.le_of_ble_eq_true rfl) (Nat.zero_le _) (fun X ad hl hnm hcl hsl hZ hC hQ => ?_)
  obtain ⟨z1, z2, z3, z4, z5, z6, z7⟩ := id hZ
  have hs := strN_lt k hk
  refine G_al0 hC dJ0_charAt_5068e_0 ?_
  refine G_callZV hC hZ c_isLatin1 mz_J0_492 rfl (by decide) (Nat.le_of_ble_eq_true rfl) rfl dJ0_charAt_5068e_1 rfl (fun r M' P' h => ?_)
  obtain ⟨rfl, rfl, rfl⟩ := h
  refine G_if_eq (tgt := 16) hC dJ0_charAt_5068e_4 (by decide) (by omega) (fun c => absurd c (by omega)) (fun _ => ?_)
  refine G_al0 hC dJ0_charAt_5068e_7 ?_
  refine G_sget (v := vR 1002) hC z4 fk_9 dJ0_charAt_5068e_8 ?_
  refine G_il1 hC dJ0_charAt_5068e_11 ?_
  refine G_callZS hC hZ (c_latinAt (k := k) hk) ms_J0_495 rfl (by decide) (Nat.le_of_ble_eq_true rfl) rfl dJ0_charAt_5068e_12 rfl (fun r M' P' h => ?_)
  obtain ⟨rfl, rfl, rfl⟩ := h
  exact G_tret hC hQ dJ0_charAt_5068e_15 (narC (by omega)) ⟨rfl, rfl, rfl⟩
