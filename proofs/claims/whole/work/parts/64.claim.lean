/-! THE CLAIM OUT OF ONE WALK OF THE LAW'S BODY. Your part is whole_start (and what it stands on); all else here is the same for every law, but numbers. -/
def R_law : String := "PassTheSaltLaw"
def lw_P (b : Addr) (xs : List Int32) (args : Array Value) (s : State) : Prop := args = #[.ref b] ∧ s.IntsAt b xs ∧ xs.length ≤ 2048 ∧ (Jvm.Cond.and given_1 narrow_1).before args s = true
def lw_Q (_ : Array Value) (s : State) (o : Outcome) (t : State) : Prop := o = .returned (some (.int 1)) ∧ Framed s o t [] 600000 7302250
def lw_Z (below : List Frame) (a : Array Value) (s : State) : State → Prop := fun t => ∃ o, t.status = .running ∧ Ended t below o ∧ lw_Q a s o t
/-- the law's own end, with 1 on the stack, nothing written that was there before, its room as the claim has it -/
theorem lw_ret {p : Program} {l : Launch} {e : Env} {s : State} {m : MethodId} {below : List Frame} {meth : Method} {c : Code} {b : Nat} (hx : p.tables.exec = Jvm.exec) (hb : c.code = code) (hr : meth.sig.returnType = ret) (hlocks : meth.locks = false) {pc : Nat} {H : Heap} {ls : Array Slot} (hdg : decode code pc = .ok (.ireturn, 1)) : W p l e room_1 s m #[Value.ref b] below meth c H [] 600000 7302250 (lw_Z below #[Value.ref b] s) (F0 m pc ls [.int 1]) := by
  intro T hT X
  obtain ⟨fs, hret, hrun, hended, hW, hframe⟩ := X.leave (v := some (.int 1)) (hlocks := hlocks) (fun h => by rw [hr] at h; cases h)
  have hmeth' : T.vm.method? m = some meth := X.method'
  refine ⟨T.setFrames fs, ?_, .returned (some (.int 1)), hrun, hended, rfl, ⟨_, rfl⟩, hW, hframe⟩
  jvm_step X.here [X.here.top, hx, hb, hdg, hmeth', hr, ret, narrow_b1]
  (try refine ⟨rfl, ?_⟩); (try refine ⟨rfl, ?_⟩)
  first | (intro acts; rw [hret _ acts rfl rfl rfl]) | rw [hret _ _ rfl rfl rfl]
  exact Steps.refl _
/-- what holds at the law's entry: the machine, the code, the tables' words (any of lw_tbl by 'hts w (by decide +kernel)'), the script of L ints xs at the cell b, what the Statement gives of the start (any of its parts by flat_of_before) -/
def lw_At (p : Program) (s : State) (m : MethodId) (meth : Method) (c : Code) (b L : Nat) (xs : Nat → Int32) : Prop :=
  p.tables.exec = Jvm.exec ∧ c.code = code ∧ meth.sig.returnType = ret ∧ c.maxLocals = 4 ∧ s.vm.findClass R_law = some m.cls ∧ (∀ w ∈ lw_tbl, w.before #[Value.ref b] s = true) ∧ va_X b L xs s s.heap ∧ b < s.heap.size ∧ meth.locks = false ∧ (Jvm.Cond.and given_1 narrow_1).before #[Value.ref b] s = true
theorem lw_K {args : Array Value} {s : State} (hts : ∀ w ∈ lwG, w.before args s = true) : ∃ (D : va_G) (cy : CYT), va_K D vwCl (tysC cy) s := by
  obtain ⟨k0, i0, h0⟩ := u_known hts nw_X9_32.1.2.1 (hts _ nw_X9_32.2.2.1)
  obtain ⟨k1, i1, h1⟩ := u_known hts nw_X9_73.1.2.1 (hts _ nw_X9_73.2.2.1)
  obtain ⟨k2, i2, h2⟩ := u_known hts nw_X9_80.1.2.1 (hts _ nw_X9_80.2.2.1)
  obtain ⟨k3, i3, h3⟩ := u_known hts nw_X9_39.1.2.1 (hts _ nw_X9_39.2.2.1)
  obtain ⟨k4, i4, h4⟩ := u_known hts nw_X9_20.1.2.1 (hts _ nw_X9_20.2.2.1)
  obtain ⟨k5, i5, h5⟩ := u_known hts nw_X9_48.1.2.1 (hts _ nw_X9_48.2.2.1)
  obtain ⟨k6, i6, h6⟩ := u_known hts nw_X9_57.1.2.1 (hts _ nw_X9_57.2.2.1)
  obtain ⟨k7, i7, h7⟩ := u_known hts nw_X9_13.1.2.1 (hts _ nw_X9_13.2.2.1)
  obtain ⟨k8, i8, h8⟩ := u_known hts nw_X9_64.1.2.1 (hts _ nw_X9_64.2.2.1)
  obtain ⟨k9, i9, h9⟩ := u_known hts nw_L_7.1.2.1 (hts _ nw_L_7.2.2.1)
  obtain ⟨k10, i10, h10⟩ := u_known hts nw_L_10.1.2.1 (hts _ nw_L_10.2.2.1)
  obtain ⟨x0, y0, z0, e0, f0, g0⟩ := Cond.arrayClass_spec (hts _ aw_int)
  obtain ⟨x1, y1, z1, e1, f1, g1⟩ := Cond.arrayClass_spec (hts _ aw_long)
  obtain ⟨x2, y2, z2, e2, f2, g2⟩ := Cond.arrayClass_spec (hts _ aw_boolean)
  refine ⟨(fun k => [k0, k1, k2, k3, k4, k5, k6, k7, k8, k9, k10].getD k k0, fun k => [i0, i1, i2, i3, i4, i5, i6, i7, i8, i9, i10].getD k i0), (x0, x1, x2), fun k q hq => ?_, fun k q hq => ?_⟩
  · match k, hq with
    | 0, hq => cases hq; exact h0
    | 1, hq => cases hq; exact h1
    | 2, hq => cases hq; exact h2
    | 3, hq => cases hq; exact h3
    | 4, hq => cases hq; exact h4
    | 5, hq => cases hq; exact h5
    | 6, hq => cases hq; exact h6
    | 7, hq => cases hq; exact h7
    | 8, hq => cases hq; exact h8
    | 9, hq => cases hq; exact h9
    | 10, hq => cases hq; exact h10
    | k + 11, hq => simp [vwCl] at hq
  · match k, hq with
    | 0, hq => cases hq; exact ⟨fun n z => ⟨fun k h => (by cases h), y0, f0, z0, g0⟩, e0⟩
    | 1, hq => cases hq; exact ⟨fun n z => ⟨fun k h => (by cases h), y1, f1, z1, g1⟩, e1⟩
    | 2, hq => cases hq; exact ⟨fun n z => ⟨fun k h => (by cases h), y2, f2, z2, g2⟩, e2⟩
    | k + 3, hq => simp at hq
theorem lw_N {args : Array Value} {s : State} (hts : ∀ w ∈ lw_tbl, w.before args s = true) : ∀ w ∈ lwN, va_Nw w s := by
  intro w hw
  obtain ⟨h1, h2⟩ := List.mem_filter.mp hw
  have h3 := hts w h1
  cases w <;> simp [isNest] at h2
  exact va_Nw.of rfl h3
abbrev tmS : Term := .string "PassTheSalt" 92
abbrev tmV : Term := .field (.string "PassTheSalt" 92) "java/lang/String" "value" "[B"
set_option maxHeartbeats 4000000 in
set_option maxRecDepth 100000 in
theorem lw_Zs {args : Array Value} {s : State} {b : Nat} (hts : ∀ w ∈ lw_tbl, w.before args s = true) (hgv : (Jvm.Cond.and given_1 narrow_1).before args s = true) : ∃ (fm : Bool) (ad : Nat → Nat), ad 1000 = b ∧ ZS fm ad (fun q : Nat => s.heap.size ≤ q) s s.heap := by
  have hA : ∀ a : Nat, a < s.heap.size → ¬ (fun q : Nat => s.heap.size ≤ q) a := fun a h => Nat.not_le.mpr h
  have hs := flat_of_before _ hgv
  have hex : (Cond.exactly tmS "java/lang/String").before args s = true := hs _ (by decide +kernel)
  have hco : (Cond.eq (.field tmS "java/lang/String" "coder" "B") (.int 0)).before args s = true := hs _ (by decide +kernel)
  have har : (Cond.arrayOf tmV .byte).before args s = true := hs _ (by decide +kernel)
  have hle : (Cond.eq (.length tmV) (.int 24)).before args s = true := hs _ (by decide +kernel)
  have hcp : (Cond.eq (.static "java/lang/String" "COMPACT_STRINGS" "Z") (.int 1)).before args s = true := hs _ (by decide +kernel)
  have hfo : (Cond.isRef (.static "jdk/internal/util/Preconditions" "SIOOBE_FORMATTER" "Ljava/util/function/BiFunction;")).before args s = true := hs _ (by decide +kernel)
  have hel : ∀ j : Nat, j < 24 → (Cond.eq (.elem tmV (.int (Int32.ofNat j))) (.int (Int32.ofInt (strN j)))).before args s = true := by
    intro j hj
    refine hs _ ?_
    revert j
    decide +kernel
  obtain ⟨a, c, cA, kA, q1, q2, q3, q4, q5, q6, -⟩ := Cond.exactly_spec (args := args) (first := s) (o := none) (s := s) (idx := []) (t := tmS) (cls := "java/lang/String") hex
  obtain ⟨t, ht, hT⟩ := va_Tof (tm := tmV) (ty := .byte) (N := 24) (f := fun j => .int (Int32.ofInt (strN j))) (by decide) har (va_eqt hle) (fun j hj => va_eqt (hel j hj)) hA
  have hR : vk_R RX9 92 txS a s := vk_R.of (A := args) (hts _ (List.mem_of_getElem? (i := 350) (by decide +kernel))) q1
  have hO := va_Oof hex q1 hA
  have hOc := vk_OFof q1 (va_eqt hco) hA
  have hOv := vk_OFof q1 ht hA
  have hZc := va_Zof (hts _ (List.mem_of_getElem? (i := 360) (by decide +kernel))) (hts _ (List.mem_of_getElem? (i := 82) (by decide +kernel))) (va_eqt hcp) hA
  have hZq := va_Zqof (hts _ (List.mem_of_getElem? (i := 376) (by decide +kernel))) (hts _ (List.mem_of_getElem? (i := 84) (by decide +kernel))) hfo hA
  rcases hZq with hz | ⟨tf, hz⟩
  · exact ⟨false, fun k => if k = 1000 then b else if k = 1001 then a else if k = 1002 then t else 0, rfl, hR, hO, hOc, hOv, hT, hZc, hz⟩
  · exact ⟨true, fun k => if k = 1000 then b else if k = 1001 then a else if k = 1002 then t else tf, rfl, hR, hO, hOc, hOv, hT, hZc, hz⟩
set_option maxHeartbeats 4000000 in
set_option maxRecDepth 100000 in
theorem whole_start {p : Program} {e : Env} {s : State} {m : MethodId} {below : List Frame} {meth : Method} {c : Code} (l : Launch) {b L : Nat} {xs : Nat → Int32} (hL : L ≤ 2048) (C0 : lw_At p s m meth c b L xs) : W p l e room_1 s m #[Value.ref b] below meth c s.heap [] 0 0 (lw_Z below #[Value.ref b] s) (entryFrame m ([Value.ref b] : List Value).toArray 4) := by
  obtain ⟨hx, hb, hr, hml, hown, hts, hX, hbl, hlocks, hgv⟩ := C0
  have hG : ∀ w ∈ lwG, w.before #[Value.ref b] s = true := fun w hw => hts w (List.mem_filter.mp hw).1
  obtain ⟨D, cy, hK⟩ := lw_K hG
  obtain ⟨fm, ad, had, hZ⟩ := lw_Zs (b := b) hts hgv
  let X : CX := ((p, l, e, room_1, s, m, #[Value.ref b], below), (meth, c, D, cy), ((fun q : Nat => s.heap.size ≤ q), lw_Z below #[Value.ref b] s, ad, 0))
  have hC : OK X (ad, 0, 0, 0) cL_law RL 4 ret 10 420 0 := ⟨⟨hx, hb, hown, hml, hr, hlocks⟩, ⟨hG, lw_N hts, hK⟩, ⟨fun i j hi => absurd hi (Nat.not_lt_zero _), fun i hi => absurd hi (Nat.not_lt_zero _), fun q h => h⟩, ⟨rfl, rfl, Nat.zero_le _, Nat.zero_le _, Nat.le_refl _⟩, ⟨Nat.le_refl _, fun k hk => absurd hk (Nat.not_lt_zero _), fun k _ hk => absurd hk (Nat.not_lt_zero _), fun _ => rfl⟩⟩
  have hSC : SCR X ad L xs := by
    unfold SCR
    rw [had]
    exact ⟨hX, hbl, Nat.not_le.mpr hbl⟩
  have hE : ∀ ad' i M P, OK X (ad', 77, 77, 65950) cL_law RL 4 ret 10 420 77 → G X (ad', 77, 77, 65950) 760 [vR 1000, vR 0, vR 45, vI i] [] M P := by
    intro ad' i M P hC'
    refine G_iconst hC' dL_law_760 ?_
    intro H locs ls h1 h2 h3
    refine va_forget (fun q hq => h2.2.2 q hq) ?_
    refine W.widen (k := 600000) (n := 7302250) (Nat.le_of_ble_eq_true rfl) (Nat.le_of_ble_eq_true rfl) ?_
    exact lw_ret hx hb hr hlocks dL_law_761
  have hW := lq_start (M := fun _ _ => 0) (P := fun _ _ => none) ⟨rfl, rfl⟩ hC hZ hSC hL hE s.heap [] ((lg_sl ([vR 1000].map (cv ad)) ++ List.replicate (4 - (lg_sl ([vR 1000].map (cv ad))).length) Slot.unset).toArray) (fun k q h => by have h' : ([] : va_W)[k]? = some q := h; simp at h') va_S.rf (LH_entry (as := [vR 1000]) rfl (Nat.le_of_ble_eq_true rfl))
  rw [lg_entry_eq]
  have e1 : [vR 1000].map (cv ad) = [Value.ref b] := by
    show [Value.ref (ad 1000)] = _
    rw [had]
  rw [e1] at hW
  exact hW
set_option maxHeartbeats 4000000 in
theorem lw_walk (l : Launch) (b : Addr) (xs : List Int32) : MetFree l x (headSpec (Jvm.Cond.code x code maxLocals ret :: tables_1) room_1) (lw_P b xs) (fun _ _ _ _ _ => True) lw_Q := by
  refine MetFree.of_bodyS (code := code) (maxLocals := maxLocals) (ret := ret) (by decide) ?_ ?_
  · intro args s m h hn
    obtain ⟨meth, c, h1, h2, h3, h4, h5, h6, -, -⟩ := Cond.code_spec hn (atoms_spec (ws := Jvm.Cond.code x code maxLocals ret :: tables_1) h _ List.mem_cons_self)
    exact ⟨meth, c, h1, h2, h3, h4, h5, h6⟩
  · intro p e s m args below meth c s₁ B hml0 hP _
    obtain ⟨rfl, hx, hbd, hgv⟩ := hP
    obtain ⟨scr, harrAt, hlist, hof, hsmall⟩ := hx
    obtain ⟨hcb, hkn, -, -⟩ := State.arrayAt?_spec harrAt
    have hown : s.vm.findClass R_law = some m.cls := findClass_of_methodNamed B.named
    have hts0 : ∀ c ∈ (Jvm.Cond.code x code maxLocals ret :: tables_1), c.before #[Value.ref b] s = true := atoms_spec (ws := Jvm.Cond.code x code maxLocals ret :: tables_1) B.pre
    have hts : ∀ w ∈ lw_tbl, w.before #[Value.ref b] s = true := k2_hts_sels lw_privs (fun w hw => hts0 w (List.mem_cons_of_mem _ hw)) lw_privs_ok
    have hml : c.maxLocals = 4 := B.maxLocals_eq (hts0 _ List.mem_cons_self)
    have X₀ : Stand p l e room_1 s m #[Value.ref b] below meth c s₁ [] 0 0 := Stand.of_body B
    have hh0 : s₁.heap = s.heap := by rw [B.state]; rfl
    have hsz : scr.slots.size = xs.length := by rw [← Array.length_toList, hlist, List.length_map]
    have hval : ∀ j : Nat, j < xs.length → scr.slots[j]? = some (.int (xs.getD j 0)) := fun j hj => by
      rw [← Array.getElem?_toList, hlist]
      simp [hj]
    have hbl : b < s.heap.size := (Array.getElem?_eq_some_iff.mp hcb).1
    have hX : va_X b xs.length (fun j => xs.getD j 0) s s.heap := ⟨scr, hcb, hof, hkn, hsz, hval⟩
    have K : W p l e room_1 s m #[Value.ref b] below meth c s₁.heap [] 0 0 (lw_Z below #[Value.ref b] s) (entryFrame m ([Value.ref b] : List Value).toArray 4) := by
      rw [hh0]
      exact whole_start l hbd ⟨B.exec, B.bytes, B.returns, hml, hown, hts, hX, hbl, B.notSynchronized, hgv⟩
    obtain ⟨t, a1, o, b1, b2, b3⟩ := K s₁ rfl X₀
    exact ⟨t, o, a1, b1, b2, b3⟩
theorem lw_pre_spec {args : Array Value} {s : State} (h : (Jvm.Cond.and given_1 narrow_1).before args s = true) (hr : rest_1_c.before args s = true) : ∃ (b : Addr) (xs : List Int32), lw_P b xs args s := by
  have hs := flat_of_before _ h
  have hq := flat_of_before _ hr
  have hc : (Cond.count 1).before args s = true := hs _ (by decide +kernel)
  have harr : (Cond.arrayOf (.arg 0) .int).before args s = true := hs _ (by decide +kernel)
  have hle : (Cond.le (.length (.arg 0)) (.int 2048)).before args s = true := hs _ (by decide +kernel)
  have hlen : (Cond.isInt (.length (.arg 0))).before args s = true := hq _ (by decide +kernel)
  have hall : (Cond.all (.arg 0) (.isInt (.elem (.arg 0) (.index 0)))).before args s = true := hq _ (by decide +kernel)
  obtain ⟨b, xs, hb, hx⟩ := State.ints_of_pre rfl harr hlen hall
  have hsm : xs.length < 2 ^ 31 := hx.choose_spec.2.2.2
  have hev : (Term.length (.arg 0)).eval args s none [] s = some (.int xs.length.toInt32) := hx.length_eval hb
  have hv := Cond.le_ints hev (show (Term.int 2048).eval args s none [] s = some (.int 2048) from rfl)
  have hd : xs.length.toInt32 ≤ 2048 := by
    simpa [Cond.before, Cond.holds, hv] using hle
  have hN : xs.length ≤ 2048 := (Int32.ofNat_le_ofNat hsm (by decide)).mp (show Int32.ofNat xs.length ≤ Int32.ofNat 2048 from hd)
  exact ⟨b, xs, Cond.one_arg hc (show args[0]? = some (.ref b) from hb), hx, hN, h⟩
theorem lw_comes (l : Launch) : Comes l x (Jvm.Cond.code x code maxLocals ret :: tables_1) room_1 (fun tb e args s => Calls_1 tb e args s ∧ rest_1 tb e args s ∧ Pre_1 tb e args s)
    (fun _ _ args s o t => lw_Q args s o t) := by
  intro p e ha hc hk s m args below hf hfit hheap happ hpre
  obtain ⟨b, xs, hP⟩ := lw_pre_spec hpre.2.2 hpre.2.1
  obtain ⟨k, o, h1, h2, h3, hQ⟩ := lw_walk l b xs p e ha hc hk s m args below hf ((Spec.applies_iff_loose hf).mp happ).1 hP trivial
  exact ⟨k, o, h1, h2, h3, hQ⟩
theorem lw_frame {s t : State} {o : Outcome} {args : Array Value} (h : Framed s o t [] 600000 7302250) :
    Framed s o t (fieldLocs frame_1_writes args s ++ arrayLocs frame_1_arrays args s ++ staticLocs frame_1_statics s) 600000 7302250 := h
theorem lw_limb (L : Cond) (hL : ∀ (args : Array Value) (s t : State), L.after args s (.returned (some (.int 1))) t = true) :
    ArmFor flags0 classFile x code maxLocals ret World_1 tables_1 room_1 Calls_1 rest_1 Pre_1
      (fun tb e a s o t => postC L tb e a s o t ∧ Framed s o t (fieldLocs frame_1_writes a s ++ arrayLocs frame_1_arrays a s ++ staticLocs frame_1_statics s) 600000 7302250) := by
  intro l _ _ _ p e ha hc hk s m args below hf hfit hheap happ hpre
  obtain ⟨k, o, h1, h2, h3, rfl, hF⟩ := lw_comes l p e ha hc hk s m args below hf hfit hheap happ hpre
  exact ⟨k, _, h1, h2, h3, hL args s _, lw_frame hF⟩
theorem i_vc : Claimed_1_1 ∧ Claimed_1_2 := ⟨lw_limb limb_1_1 (fun args s t => by simp [limb_1_1, Cond.after, Cond.holds, Cond.value]), lw_limb limb_1_2 (fun args s t => Cond.after_iff.mpr (by
  first | (rw [show limb_1_2 = Cond.eq .result (.int 1) from rfl, Cond.eq_ints (x := 1) (y := 1) rfl rfl]; simp; done) | (simp [limb_1_2, Cond.value, Term.eval]; done)))⟩
