/-! the law's loop -/
theorem pstC_lt {k j q : Nat} (h : pstC k j = some q) : k < 45 := by
  unfold pstC at h
  split at h <;> first | omega | cases h
theorem CIv_fr {c : Nat} {M M' : Mem} {P P' : PMem} {S : AS} (h : CIv c M P S) (e : ∀ a, a < 45 → ∀ b, M' a b = M a b) (ep : ∀ a, a < 45 → ∀ b, P' a b = P a b) : CIv c M' P' S := by
  obtain ⟨⟨g, wa, wb, w1, w2, w3⟩, a2, a3, a4, a5, N, lq, a6⟩ := h
  exact ⟨⟨fun k j q hq => by rw [ep k (pstC_lt hq)]; exact g k j q hq, wa, wb, w1, by rw [ep 21 (by omega)]; exact w2, by rw [ep 21 (by omega)]; exact w3⟩, a2, pA_x a3 (fun a ha b => e a (by omega) b), pT_x a4 (fun a ha b => e a (by omega) b), pF_x a5 (fun a h1 h2 b => e a (by omega) b), N, lq, LyS_x a6 (fun a h1 h2 _ _ _ b => e a (by omega) b)⟩
theorem MIv_fr {c : Nat} {M M' : Mem} {P P' : PMem} {S : AS} (h : MIv c M P S) (e : eqx clsX M M') (ep : PX P P') : MIv c M' P' S := by
  have e' : ∀ a, 45 ≤ a → ∀ b, M' a b = M a b := fun a ha b => e a (fun q => by unfold clsX at q; omega) b
  have h' := MIv_x (c' := c) h (fun a h1 _ b => e' a (by omega) b) (fun b _ => e' 45 (by omega) b) (qMk_x h.2.2.2.2.2.2 (e' 45 (by omega) 37) (e' 67 (by omega)))
  exact ⟨fun j q hq => by rw [ep 45 j (by omega)]; exact h'.1 j q hq, h'.2⟩
/-- class and reference hold the same evening -/
def LIv (c : Nat) (M : Mem) (P : PMem) : Prop := ∃ S, CIv c M P S ∧ MIv c M P S
theorem LIv_st {c c1 c2 : Nat} {M1 M2 : Mem} {Pp : PMem} {S' : AS} (h1 : CIv c1 M1 Pp S') (h2 : MIv c2 M2 Pp S') (e : eqx mdX M1 M2) (k1 : c1 ≤ c) (k2 : c2 ≤ c) : LIv c M2 Pp :=
  ⟨S', (CIv_fr h1 (fun a ha b => e a (fun q => by unfold mdX at q; omega) b) (fun _ _ _ => rfl)).mono k1, h2.mono k2⟩
theorem TOK_I {c : Nat} {M : Mem} {P : PMem} {S : AS} (h : CIv c M P S) : TOK S := by
  obtain ⟨-, -, -, -, -, N, lq, a6⟩ := h
  obtain ⟨-, -, -, -, -, k, w⟩ := a6.1.1
  exact fun g hg => ⟨(k g hg).2, fun d hd => (w g d hg hd).2⟩
theorem bAnd31 (a : Int) : 0 ≤ bAnd a 31 ∧ bAnd a 31 ≤ 31 := by
  unfold bAnd
  obtain ⟨n, hn⟩ : ∃ n : Nat, Int32.ofInt a = nI n := ⟨(Int32.ofInt a).toBitVec.toNat, by
    apply Int32.toBitVec_inj.1
    show _ = BitVec.ofNat 32 _
    rw [BitVec.ofNat_toNat]; simp⟩
  rw [hn, show Int32.ofInt 31 = nI 31 from by decide, nx_and', show (31 : Nat) = 2 ^ 5 - 1 by rfl, Nat.and_two_pow_sub_one_eq_mod, nI_toInt (by omega)]
  omega
/-- the script -/
def SCR (X : CX) (ad : Nat → Nat) (Ls : Nat) (f : Nat → Int32) : Prop := va_X (ad 1000) Ls f (xs X) (xs X).heap ∧ ad 1000 < (xs X).heap.size ∧ ¬ xA X (ad 1000)
theorem SCR.ad {X : CX} {ad ad' : Nat → Nat} {Ls : Nat} {f : Nat → Int32} (h : SCR X ad Ls f) (e : ad' 1000 = ad 1000) : SCR X ad' Ls f := by
  unfold SCR
  rw [e]
  exact h
section LAWR
variable {X : CX} {Y : CY} {cc : ByteArray} {own : String} {nL : Nat} {rt : Option FieldType} {fr lo nm : Nat} {pc : Nat} {L st : List AV} {M : Mem} {P : PMem} {Q : Option AV → Mem → PMem → Prop} {Ls : Nat} {f : Nat → Int32}
theorem G_scld {k : Nat} {z : Int} (hC : OK X Y cc own nL rt fr lo nm) (hX : SCR X (ya Y) Ls f) (hl : Ls ≤ 2048) (hz : z = (k : Int)) (hk : k < Ls) (d : decode cc pc = .ok (.iaload, 1)) (kk : G X Y (pc + 1) L (vI (f k).toInt :: st) M P) : G X Y pc L (vI z :: vR 1000 :: st) M P := by
  subst hz
  intro H locs ls h1 h2 h3
  have hn := i32_nn (z := k) (by omega)
  have h := kk H locs ls h1 h2 h3
  simp only [List.map, cv, Int32.ofInt_toInt] at h ⊢
  exact va_sld hC.x hC.b hX.1 hX.2.1 hX.2.2 h2 (i32_in ⟨by omega, by omega⟩ (by omega)) d (by rw [hn.2]; exact h)
theorem G_scln (hC : OK X Y cc own nL rt fr lo nm) (hX : SCR X (ya Y) Ls f) (hl : Ls ≤ 2048) (d : decode cc pc = .ok (.arraylength, 1)) (kk : G X Y (pc + 1) L (vI (Ls : Int) :: st) M P) : G X Y pc L (vR 1000 :: st) M P := by
  intro H locs ls h1 h2 h3
  have h := kk H locs ls h1 h2 h3
  have e : Int32.ofInt (Ls : Int) = Int32.ofNat Ls := i32_N Ls (by omega)
  simp only [List.map, cv, e] at h ⊢
  exact va_slen hC.x hC.b hX.1 hX.2.1 hX.2.2 h2 d h
theorem G_icmpE {a off : Int} {tgt : Nat} (hC : OK X Y cc own nL rt fr lo nm) (d : decode cc pc = .ok (.if_icmp .eq off, 3)) (ht : (pc : Int) + off = (tgt : Int)) (k : G X Y tgt L st M P) : G X Y pc L (vI a :: vI a :: st) M P :=
  fun H locs ls h1 h2 h3 => lv_icmp_eq hC.x hC.b d ht (fun _ => k H locs ls h1 h2 h3) (fun q => absurd rfl q)
theorem G_lcmpE {a : Int} (hC : OK X Y cc own nL rt fr lo nm) (d : decode cc pc = .ok (.lcmp, 1)) (k : G X Y (pc + 1) L (vI 0 :: st) M P) : G X Y pc L (vL a :: vL a :: st) M P := by
  intro H locs ls h1 h2 h3
  have h := k H locs ls h1 h2 h3
  have e : lg_cmp (Int64.ofInt a) (Int64.ofInt a) = Int32.ofInt 0 := by
    unfold lg_cmp
    rw [if_neg (Int64.lt_irrefl), if_pos rfl]
    rfl
  simp only [List.map, cv, ← e] at h ⊢
  exact W.lcmp hC.x hC.b d h
theorem G_runIZ {fm : Bool} {H : Heap} {locs : List Loc} {ls : Array Slot} {y : MethodName} {cc' : ByteArray} {nL' : Nat} {fr' lo' mc ms n' b na idx : Nat} {as : List AV} (hC : OK X Y cc own nL rt fr lo nm) (hz : ZS fm (ya Y) (xA X) (xs X) (xs X).heap) (hct : CtZ fm (xl X) y cc' nL' none fr' lo' mc ms (yn Y) n' (vR b :: as) M P Q) (hm : MI own idx y cc' nL' na) (ha : as.length = na) (hR : fr' + 1 ≤ fr ∧ 8 + (nL' + 11) + lo' ≤ lo) (hst : c2s st ≤ 8) (hc : yc Y + mc ≤ (xR X).cells) (hsl : ys Y + ms ≤ (xR X).slots) (hls : ls.size = nL) (d : decode cc pc = .ok (.invokespecial idx, 3)) (h1 : va_P (xD X) vwCl (wl (xcy X) (ya Y) (yn Y) M P) H) (h2 : va_S (xA X) (xs X).heap H locs) :
    va_Run (xp X) (xl X) (xe X) (xR X) (xs X) (xm X) (xargs X) (xbelow X) (xmeth X) (xc X) H locs (yc Y) (ys Y) mc ms (F0 (xm X) pc ls ((as.reverse ++ vR b :: st).map (cv (ya Y)))) (st.map (cv (ya Y))) (QcA (xD X) (xcy X) (ya Y) (yn Y) n' H.size Q ((vR b :: as).map (cv (ya Y))).toArray) (aA (ya Y) (yn Y) H.size) := by
  obtain ⟨⟨⟨hd1, hd2, hd3⟩, hcode, hini, hlink⟩, hname, hinst⟩ := hm
  have hR' : fr' + 1 ≤ (xR X).frames ∧ 8 + (nL' + 11) + lo' ≤ (xR X).locals := by
    rw [hC.2.2.2.1.1, hC.2.2.2.1.2.1]; exact hR
  have hp : PreS (xs X) H (PcZ fm (xD X) (xcy X) (ya Y) (yn Y) H.size (vR b :: as) M P) (.ref (ya Y b) :: as.map (cv (ya Y))) :=
    ⟨blindZ, fun U hU hW => ⟨rfl, by rw [hU], HdS.warm (by rw [hU]; exact h1) hC.K hC.2.1.2.1 hC.2.2.1.1 hW, Z_at hC hz h2 hU hW⟩⟩
  have hstk : (F0 (xm X) pc ls ((as.reverse ++ vR b :: st).map (cv (ya Y)))).stack = (as.map (cv (ya Y))).reverse ++ .ref (ya Y b) :: st.map (cv (ya Y)) := by
    show (as.reverse ++ vR b :: st).map (cv (ya Y)) = _
    rw [List.map_append, List.map_reverse]; rfl
  have hW8 : 2 * (F0 (xm X) pc ls ((as.reverse ++ vR b :: st).map (cv (ya Y)))).monitorRoom + ((st.map (cv (ya Y))).map fun v => v.category).sum ≤ 8 := lv_room (by rw [c2s_ok]; exact hst)
  rcases hlink with hl | ⟨host, hl⟩
  · exact va_runI ⟨hC.x, hC.b, hC.1.2.2.2.1, hC.o, hC.w⟩ (hct (xD X) (xcy X) (ya Y) H.size) ⟨callB_of na hC.w (good_cons hcode) rfl rfl rfl (hC.w _ hini) (hC.w _ hl) ⟨hd1, hd2, hd3⟩ hR', hname, hC.w _ hinst⟩ hp rfl (by rw [List.length_map]; exact ha) hls hstk hW8 d ⟨hc, hsl⟩
  · exact va_runIN ⟨hC.x, hC.b, hC.1.2.2.2.1, hC.o, hC.w⟩ (hct (xD X) (xcy X) (ya Y) H.size) ⟨va_cnB na hC.w (good_cons hcode) rfl rfl rfl (hC.2.1.2.1 _ hl) (hC.w _ hini) ⟨hd1, hd2, hd3⟩ hR', hname, hC.w _ hinst⟩ hp rfl (by rw [List.length_map]; exact ha) hls hstk hW8 d ⟨hc, hsl⟩
theorem G_callIZ {fm : Bool} {stk : List AV} {y : MethodName} {cc' : ByteArray} {nL' : Nat} {fr' lo' mc ms n' b na idx : Nat} {as : List AV} (hC : OK X Y cc own nL rt fr lo nm) (hz : ZS fm (ya Y) (xA X) (xs X) (xs X).heap) (hct : CtZ fm (xl X) y cc' nL' none fr' lo' mc ms (yn Y) n' (vR b :: as) M P Q) (hm : MI own idx y cc' nL' na) (ha : as.length = na) (hR : fr' + 1 ≤ fr ∧ 8 + (nL' + 11) + lo' ≤ lo) (hst : c2s st ≤ 8) (hc : yc Y + mc ≤ (xR X).cells) (hsl : ys Y + ms ≤ (xR X).slots) (hn : yn Y ≤ n') (hln : L.length = nL) (hrl : L.all (rO2 (yn Y) n') = true) (hrs : st.all (rO2 (yn Y) n') = true) (hQ : ∀ r M' P', Q r M' P' → r = none ∧ PB P' n') (d : decode cc pc = .ok (.invokespecial idx, 3)) (hk : stk = as.reverse ++ vR b :: st)
    (kk : ∀ ad' M' P', Q none M' P' → (∀ k, k < yn Y ∨ n' ≤ k → ad' k = ya Y k) → OK X (ad', n', yc Y + mc, ys Y + ms) cc own nL rt fr lo n' → G X (ad', n', yc Y + mc, ys Y + ms) (pc + 3) L st M' P') : G X Y pc L stk M P := by
  subst hk
  intro H locs ls h1 h2 h3
  refine G_back hC (G_runIZ hC hz hct hm ha hR hst hc hsl (h3.1.trans hln) d h1 h2) h2 hc hsl hn (fun ad' r M' P' H1 locs1 hq hx hx3 hOK q1 q2 => ?_)
  obtain ⟨rfl, hB⟩ := hQ r M' P' hq
  have a1 : ∀ k, k < n' → (fun k => if k < n' then ad' k else ya Y k) k = ad' k := fun k hk => if_pos hk
  have a2 : ∀ k, k < yn Y ∨ n' ≤ k → (fun k => if k < n' then ad' k else ya Y k) k = ya Y k := fun k hk => by
    dsimp only
    split
    · exact hx k (by omega)
    · rfl
  have hOK2 : OK X ((fun k => if k < n' then ad' k else ya Y k), n', yc Y + mc, ys Y + ms) cc own nL rt fr lo n' := by
    obtain ⟨c1, c2, ⟨d1, d2, d3⟩, ⟨f1, f2, f3, f4, f5⟩, ⟨g1, g2, g3, g4⟩⟩ := hOK
    have d1' : injA ad' n' := d1
    have d2' : ∀ i, i < n' → xA X (ad' i) := d2
    have g1' : xn X ≤ n' := g1
    have g2' : ∀ k, k < xn X → ad' k = xad X k := g2
    have g3' : ∀ k, xn X ≤ k → k < n' → (xs X).heap.size ≤ ad' k := g3
    have g4' : n' = xn X → ad' = xad X := g4
    refine ⟨c1, c2, ⟨fun i j hi hj e => ?_, fun i hi => ?_, d3⟩, ⟨f1, f2, f3, f4, Nat.le_refl _⟩, ⟨g1', fun k hk => ?_, fun k h1 h2 => ?_, fun e => ?_⟩⟩
    · have hi' : i < n' := hi
      have hj' : j < n' := hj
      have e' : (if i < n' then ad' i else ya Y i) = if j < n' then ad' j else ya Y j := e
      rw [if_pos hi', if_pos hj'] at e'
      exact d1' i j hi' hj' e'
    · show xA X (if i < n' then ad' i else ya Y i)
      have hi' : i < n' := hi
      rw [if_pos hi']; exact d2' i hi'
    · show (if k < n' then ad' k else ya Y k) = xad X k
      rw [if_pos (by omega)]; exact g2' k hk
    · show (xs X).heap.size ≤ if k < n' then ad' k else ya Y k
      have h2' : k < n' := h2
      rw [if_pos h2']; exact g3' k h1 h2'
    · have e' : n' = xn X := e
      have hy : yn Y = xn X := by have := hC.2.2.2.2.1; omega
      have hya := hC.2.2.2.2.2.2.2 hy
      show (fun k => if k < n' then ad' k else ya Y k) = xad X
      funext k
      split
      · rw [g4' e']
      · rw [hya]
  have hw := kk _ M' P' hq a2 hOK2 H1 locs1 ls (by
    show va_P (xD X) vwCl (wl (xcy X) (fun k => if k < n' then ad' k else ya Y k) n' M' P') H1
    rw [wl_ad hB a1]; exact q1) q2 (LH_ext2 a2 hrl h3)
  have e2 : st.map (cv (fun k => if k < n' then ad' k else ya Y k)) = st.map (cv (ya Y)) := map_ext2 a2 hrs
  rw [show ya ((fun k => if k < n' then ad' k else ya Y k), n', yc Y + mc, ys Y + ms) = fun k => if k < n' then ad' k else ya Y k from rfl, e2] at hw
  exact hw
end LAWR
theorem G_callIZ2 {fm : Bool} {X : CX} {cc : ByteArray} {own : String} {nL : Nat} {rt : Option FieldType} {fr lo nm : Nat} {pc : Nat} {L st : List AV} {M : Mem} {P : PMem} {Q : Option AV → Mem → PMem → Prop} {ad : Nat → Nat} {n c s : Nat} {stk : List AV} {y : MethodName} {cc' : ByteArray} {nL' : Nat} {fr' lo' mc ms n' b na idx : Nat} {as : List AV} (hC : OK X (ad, n, c, s) cc own nL rt fr lo nm) (hz : ZS fm ad (xA X) (xs X) (xs X).heap) (hct : CtZ fm (xl X) y cc' nL' none fr' lo' mc ms n n' (vR b :: as) M P Q) (hm : MI own idx y cc' nL' na) (ha : as.length = na) (hR : fr' + 1 ≤ fr ∧ 8 + (nL' + 11) + lo' ≤ lo) (hst : c2s st ≤ 8) (hc : c + mc ≤ (xR X).cells) (hsl : s + ms ≤ (xR X).slots) (hn : n ≤ n') (hln : L.length = nL) (hrl : L.all (rO2 n n') = true) (hrs : st.all (rO2 n n') = true) (hQ : ∀ r M' P', Q r M' P' → r = none ∧ PB P' n') (d : decode cc pc = .ok (.invokespecial idx, 3)) (hk : stk = as.reverse ++ vR b :: st)
    (kk : ∀ ad' M' P', Q none M' P' → (∀ k, k < n ∨ n' ≤ k → ad' k = ad k) → OK X (ad', n', c + mc, s + ms) cc own nL rt fr lo n' → G X (ad', n', c + mc, s + ms) (pc + 3) L st M' P') : G X (ad, n, c, s) pc L stk M P :=
  G_callIZ (Y := (ad, n, c, s)) hC hz hct hm ha hR hst hc hsl hn hln hrl hrs hQ d hk kk
set_option maxHeartbeats 4000000 in
set_option maxRecDepth 100000 in
theorem lq_0 {X : CX} {Y : CY} {Ls i c : Nat} {f : Nat → Int32} {M : Mem} {P : PMem} (hC : OK X Y cL_law RL 4 ret 10 420 77) (hX : SCR X (ya Y) Ls f) (hl : Ls ≤ 2048) (hi : i + 4 ≤ Ls) (hc : c ≤ 512) (hI : LIv c M P) (kk : ∀ M' P', LIv (c + 1) M' P' → G X Y 754 [vR 1000, vR 0, vR 45, vI (i : Int)] [] M' P') : G X Y 148 [vR 1000, vR 0, vR 45, vI (i : Int)] [] M P := by
  obtain ⟨S, hA, hB⟩ := hI
  have hS := hA.2.1
  have hK := TOK_I hA
  obtain ⟨N, lq, hLy⟩ := hA.2.2.2.2.2
  have hLk := hLy.lk
  refine G_al1 hC dL_law_148 ?_
  refine G_al0 hC dL_law_149 ?_
  refine G_il3 hC dL_law_150 ?_
  refine G_iconst hC dL_law_151 ?_
  refine G_iadd hC dL_law_152 ?_
  refine G_scld (k := i + 1) hC hX hl (by omega) (by omega) dL_law_153 ?_
  refine G_al0 hC dL_law_154 ?_
  refine G_il3 hC dL_law_155 ?_
  refine G_iconst hC dL_law_156 ?_
  refine G_iadd hC dL_law_157 ?_
  refine G_scld (k := i + 2) hC hX hl (by omega) (by omega) dL_law_158 ?_
  refine G_i2l hC dL_law_159 (i32_r _) ?_
  refine G_bipush (n := 32) hC dL_law_160 (by decide) ?_
  refine G_lshl hC dL_law_162 ?_
  refine G_al0 hC dL_law_163 ?_
  refine G_il3 hC dL_law_164 ?_
  refine G_iconst hC dL_law_165 ?_
  refine G_iadd hC dL_law_166 ?_
  refine G_scld (k := i + 3) hC hX hl (by omega) (by omega) dL_law_167 ?_
  refine G_i2l hC dL_law_168 (i32_r _) ?_
  refine G_ldc2 (z := 4294967295) hC kl_L_13 (by decide) dL_law_169 ?_
  refine G_land hC dL_law_172 ?_
  refine G_lor hC dL_law_173 ?_
  refine G_callVI hC (c_X9_write hA (i32_r _)) mv_L_15 rfl (by omega) (by omega) rfl (by decide) dL_law_174 rfl (Nat.le_of_ble_eq_true rfl) rfl (fun r1 M1 P1 h => ?_)
  obtain ⟨q0, q1, q2, q3⟩ := h
  have hB1 : MIv c M1 P1 S := MIv_fr hB q2 q3
  refine G_al2 hC dL_law_177 ?_
  refine G_al0 hC dL_law_178 ?_
  refine G_il3 hC dL_law_179 ?_
  refine G_iconst hC dL_law_180 ?_
  refine G_iadd hC dL_law_181 ?_
  refine G_scld (k := i + 1) hC hX hl (by omega) (by omega) dL_law_182 ?_
  refine G_al0 hC dL_law_183 ?_
  refine G_il3 hC dL_law_184 ?_
  refine G_iconst hC dL_law_185 ?_
  refine G_iadd hC dL_law_186 ?_
  refine G_scld (k := i + 2) hC hX hl (by omega) (by omega) dL_law_187 ?_
  refine G_i2l hC dL_law_188 (i32_r _) ?_
  refine G_bipush (n := 32) hC dL_law_189 (by decide) ?_
  refine G_lshl hC dL_law_191 ?_
  refine G_al0 hC dL_law_192 ?_
  refine G_il3 hC dL_law_193 ?_
  refine G_iconst hC dL_law_194 ?_
  refine G_iadd hC dL_law_195 ?_
  refine G_scld (k := i + 3) hC hX hl (by omega) (by omega) dL_law_196 ?_
  refine G_i2l hC dL_law_197 (i32_r _) ?_
  refine G_ldc2 (z := 4294967295) hC kl_L_13 (by decide) dL_law_198 ?_
  refine G_land hC dL_law_201 ?_
  refine G_lor hC dL_law_202 ?_
  refine G_callVI hC (c_X10_write hS hB1 (i32_r _)) mv_L_19 rfl (by omega) (by omega) rfl (by decide) dL_law_203 rfl (Nat.le_of_ble_eq_true rfl) rfl (fun r2 M2 P2 h => ?_)
  obtain ⟨hPf, p0, p1, p2⟩ := h
  subst hPf
  have he : r1 = r2 := q0.trans p0.symm
  subst he
  exact G_icmpE hC dL_law_206 (by decide) (kk _ _ (LIv_st q1 p1 p2 (by omega) (by omega)))
set_option maxHeartbeats 4000000 in
set_option maxRecDepth 100000 in
theorem lq_1 {X : CX} {Y : CY} {Ls i c : Nat} {f : Nat → Int32} {M : Mem} {P : PMem} (hC : OK X Y cL_law RL 4 ret 10 420 77) (hX : SCR X (ya Y) Ls f) (hl : Ls ≤ 2048) (hi : i + 4 ≤ Ls) (hc : c ≤ 512) (hI : LIv c M P) (kk : ∀ M' P', LIv (c + 1) M' P' → G X Y 754 [vR 1000, vR 0, vR 45, vI (i : Int)] [] M' P') : G X Y 211 [vR 1000, vR 0, vR 45, vI (i : Int)] [] M P := by
  obtain ⟨S, hA, hB⟩ := hI
  have hS := hA.2.1
  have hK := TOK_I hA
  obtain ⟨N, lq, hLy⟩ := hA.2.2.2.2.2
  have hLk := hLy.lk
  refine G_al1 hC dL_law_211 ?_
  refine G_callVI hC (c_X9_wipe hA) mv_L_20 rfl (by omega) (by omega) rfl (by decide) dL_law_212 rfl (Nat.le_of_ble_eq_true rfl) rfl (fun r1 M1 P1 h => ?_)
  obtain ⟨q0, q1, q2, q3⟩ := h
  have hB1 : MIv c M1 P1 S := MIv_fr hB q2 q3
  refine G_al2 hC dL_law_215 ?_
  refine G_callVI hC (c_X10_wipe hS hB1) mv_L_24 rfl (by omega) (by omega) rfl (by decide) dL_law_216 rfl (Nat.le_of_ble_eq_true rfl) rfl (fun r2 M2 P2 h => ?_)
  obtain ⟨hPf, p0, p1, p2⟩ := h
  subst hPf
  have he : r1 = r2 := q0.trans p0.symm
  subst he
  exact G_icmpE hC dL_law_219 (by decide) (kk _ _ (LIv_st q1 p1 p2 (by omega) (by omega)))
set_option maxHeartbeats 4000000 in
set_option maxRecDepth 100000 in
theorem lq_2 {X : CX} {Y : CY} {Ls i c : Nat} {f : Nat → Int32} {M : Mem} {P : PMem} (hC : OK X Y cL_law RL 4 ret 10 420 77) (hX : SCR X (ya Y) Ls f) (hl : Ls ≤ 2048) (hi : i + 4 ≤ Ls) (hc : c ≤ 512) (hI : LIv c M P) (kk : ∀ M' P', LIv (c + 1) M' P' → G X Y 754 [vR 1000, vR 0, vR 45, vI (i : Int)] [] M' P') : G X Y 224 [vR 1000, vR 0, vR 45, vI (i : Int)] [] M P := by
  obtain ⟨S, hA, hB⟩ := hI
  have hS := hA.2.1
  have hK := TOK_I hA
  obtain ⟨N, lq, hLy⟩ := hA.2.2.2.2.2
  have hLk := hLy.lk
  refine G_al1 hC dL_law_224 ?_
  refine G_callVI hC (c_X9_fault hA) mv_L_25 rfl (by omega) (by omega) rfl (by decide) dL_law_225 rfl (Nat.le_of_ble_eq_true rfl) rfl (fun r1 M1 P1 h => ?_)
  obtain ⟨q0, q1, q2, q3⟩ := h
  have hB1 : MIv c M1 P1 S := MIv_fr hB q2 q3
  refine G_al2 hC dL_law_228 ?_
  refine G_callVI hC (c_X10_fault hS hB1) mv_L_28 rfl (by omega) (by omega) rfl (by decide) dL_law_229 rfl (Nat.le_of_ble_eq_true rfl) rfl (fun r2 M2 P2 h => ?_)
  obtain ⟨hPf, p0, p1, p2⟩ := h
  subst hPf
  have he : r1 = r2 := q0.trans p0.symm
  subst he
  exact G_icmpE hC dL_law_232 (by decide) (kk _ _ (LIv_st q1 p1 p2 (by omega) (by omega)))
set_option maxHeartbeats 4000000 in
set_option maxRecDepth 100000 in
theorem lq_3 {X : CX} {Y : CY} {Ls i c : Nat} {f : Nat → Int32} {M : Mem} {P : PMem} (hC : OK X Y cL_law RL 4 ret 10 420 77) (hX : SCR X (ya Y) Ls f) (hl : Ls ≤ 2048) (hi : i + 4 ≤ Ls) (hc : c ≤ 512) (hI : LIv c M P) (kk : ∀ M' P', LIv (c + 1) M' P' → G X Y 754 [vR 1000, vR 0, vR 45, vI (i : Int)] [] M' P') : G X Y 237 [vR 1000, vR 0, vR 45, vI (i : Int)] [] M P := by
  obtain ⟨S, hA, hB⟩ := hI
  have hS := hA.2.1
  have hK := TOK_I hA
  obtain ⟨N, lq, hLy⟩ := hA.2.2.2.2.2
  have hLk := hLy.lk
  have hpre : preL M P S.1 := ⟨hA.1, hA.2.2.1.1, hA.2.2.1.2.1, hS.1, hA.2.2.1.2.2, hA.2.2.2.2.1.2.1, hLy.1.2.1.1.1⟩
  refine G_al1 hC dL_law_237 ?_
  refine G_callVI hC (c_X9_lay hpre) mv_L_29 rfl (by omega) (by omega) rfl (by decide) dL_law_238 rfl (Nat.le_of_ble_eq_true rfl) rfl (fun r1 M1 P1 h => ?_)
  obtain ⟨hPe, q2, hr⟩ := h
  have q3 : PX P P1 := fun k j _ => by rw [hPe]
  have hB1 : MIv c M1 P1 S := MIv_fr hB q2 q3
  refine G_al2 hC dL_law_241 ?_
  refine G_callVI hC (c_X10_lay hB1.1 hB1.2.2.2.2.2.1.1 hB1.2.2.2.2.2.1.2 hS.1 hB1.2.2.2.2.2.2) mv_L_32 rfl (by omega) (by omega) rfl (by decide) dL_law_242 rfl (Nat.le_of_ble_eq_true rfl) rfl (fun r2 M2 P2 h => ?_)
  obtain ⟨hPf, p2, hs⟩ := h
  subst hPf
  have key : r1 = r2 ∧ LIv (c + 1) M2 P1 := by
    rcases hr with ⟨u1, u2, u3, u4⟩ | ⟨Q, S1, u1, u2, u3, u4, u5⟩
    · rcases hs with ⟨v1, v2, -⟩ | ⟨Q2, v1, v2, -, -⟩
      · have hA1 := (CIv_tx (x := S.1) hA (M' := M1) (fun a ha b => u2 a (fun w => by unfold sRd at w; omega) b) ⟨fun k hk => by rw [u2 1 (fun w => by unfold sRd at w; omega)]; exact hA.2.2.1.1 k hk, by rw [u2 0 (fun w => by unfold sRd at w; omega)]; exact hA.2.2.1.2.1, u3⟩ hS.1).1
        rw [← hPe] at hB1 ⊢
        exact ⟨u1.trans v1.symm, LIv_st hA1 (MIv_K hB1 v2).1 p2 (by omega) (by omega)⟩
      · exfalso
        rcases u4 with ⟨p, w⟩ | ⟨Q, w, w2⟩
        · rw [w] at v1; cases v1
        · rw [w] at v1; cases v1; omega
    · rcases hs with ⟨v1, v2, ⟨p, w⟩ | ⟨Q2, w, w2⟩⟩ | ⟨Q2, v1, v2, v3, v4⟩
      · exfalso; rw [w] at u1; cases u1
      · exfalso; rw [w] at u1; cases u1; omega
      · rw [v1] at u1
        cases u1
        rw [← hPe] at v4 ⊢
        exact ⟨u3.trans v3.symm, LIv_st u5 (v4 S1 u4) p2 (by omega) (by omega)⟩
  obtain ⟨rfl, hLI⟩ := key
  exact G_icmpE hC dL_law_245 (by decide) (kk _ _ hLI)
set_option maxHeartbeats 4000000 in
set_option maxRecDepth 100000 in
theorem lq_4 {X : CX} {Y : CY} {Ls i c : Nat} {f : Nat → Int32} {M : Mem} {P : PMem} (hC : OK X Y cL_law RL 4 ret 10 420 77) (hX : SCR X (ya Y) Ls f) (hl : Ls ≤ 2048) (hi : i + 4 ≤ Ls) (hc : c ≤ 512) (hI : LIv c M P) (kk : ∀ M' P', LIv (c + 1) M' P' → G X Y 754 [vR 1000, vR 0, vR 45, vI (i : Int)] [] M' P') : G X Y 250 [vR 1000, vR 0, vR 45, vI (i : Int)] [] M P := by
  obtain ⟨S, hA, hB⟩ := hI
  have hS := hA.2.1
  have hK := TOK_I hA
  obtain ⟨N, lq, hLy⟩ := hA.2.2.2.2.2
  have hLk := hLy.lk
  refine G_al1 hC dL_law_250 ?_
  refine G_al0 hC dL_law_251 ?_
  refine G_il3 hC dL_law_252 ?_
  refine G_iconst hC dL_law_253 ?_
  refine G_iadd hC dL_law_254 ?_
  refine G_scld (k := i + 1) hC hX hl (by omega) (by omega) dL_law_255 ?_
  refine G_al0 hC dL_law_256 ?_
  refine G_il3 hC dL_law_257 ?_
  refine G_iconst hC dL_law_258 ?_
  refine G_iadd hC dL_law_259 ?_
  refine G_scld (k := i + 2) hC hX hl (by omega) (by omega) dL_law_260 ?_
  refine G_callVI hC (c_X9_guest hA (i32_r _) (i32_r _)) mv_L_33 rfl (by omega) (by omega) rfl (by decide) dL_law_261 rfl (Nat.le_of_ble_eq_true rfl) rfl (fun r1 M1 P1 h => ?_)
  obtain ⟨q0, q1, q2, q3⟩ := h
  have hB1 : MIv c M1 P1 S := MIv_fr hB q2 q3
  refine G_al2 hC dL_law_264 ?_
  refine G_al0 hC dL_law_265 ?_
  refine G_il3 hC dL_law_266 ?_
  refine G_iconst hC dL_law_267 ?_
  refine G_iadd hC dL_law_268 ?_
  refine G_scld (k := i + 1) hC hX hl (by omega) (by omega) dL_law_269 ?_
  refine G_al0 hC dL_law_270 ?_
  refine G_il3 hC dL_law_271 ?_
  refine G_iconst hC dL_law_272 ?_
  refine G_iadd hC dL_law_273 ?_
  refine G_scld (k := i + 2) hC hX hl (by omega) (by omega) dL_law_274 ?_
  refine G_callVI hC (c_X10_guest hS hB1 (i32_r _) (i32_r _)) mv_L_37 rfl (by omega) (by omega) rfl (by decide) dL_law_275 rfl (Nat.le_of_ble_eq_true rfl) rfl (fun r2 M2 P2 h => ?_)
  obtain ⟨hPf, p0, p1, p2⟩ := h
  subst hPf
  have he : r1 = r2 := q0.trans p0.symm
  subst he
  exact G_icmpE hC dL_law_278 (by decide) (kk _ _ (LIv_st q1 p1 p2 (by omega) (by omega)))
set_option maxHeartbeats 4000000 in
set_option maxRecDepth 100000 in
theorem lq_5 {X : CX} {Y : CY} {Ls i c : Nat} {f : Nat → Int32} {M : Mem} {P : PMem} (hC : OK X Y cL_law RL 4 ret 10 420 77) (hX : SCR X (ya Y) Ls f) (hl : Ls ≤ 2048) (hi : i + 4 ≤ Ls) (hc : c ≤ 512) (hI : LIv c M P) (kk : ∀ M' P', LIv (c + 1) M' P' → G X Y 754 [vR 1000, vR 0, vR 45, vI (i : Int)] [] M' P') : G X Y 283 [vR 1000, vR 0, vR 45, vI (i : Int)] [] M P := by
  obtain ⟨S, hA, hB⟩ := hI
  have hS := hA.2.1
  have hK := TOK_I hA
  obtain ⟨N, lq, hLy⟩ := hA.2.2.2.2.2
  have hLk := hLy.lk
  refine G_al1 hC dL_law_283 ?_
  refine G_al0 hC dL_law_284 ?_
  refine G_il3 hC dL_law_285 ?_
  refine G_iconst hC dL_law_286 ?_
  refine G_iadd hC dL_law_287 ?_
  refine G_scld (k := i + 1) hC hX hl (by omega) (by omega) dL_law_288 ?_
  refine G_al0 hC dL_law_289 ?_
  refine G_il3 hC dL_law_290 ?_
  refine G_iconst hC dL_law_291 ?_
  refine G_iadd hC dL_law_292 ?_
  refine G_scld (k := i + 2) hC hX hl (by omega) (by omega) dL_law_293 ?_
  refine G_al0 hC dL_law_294 ?_
  refine G_il3 hC dL_law_295 ?_
  refine G_iconst hC dL_law_296 ?_
  refine G_iadd hC dL_law_297 ?_
  refine G_scld (k := i + 3) hC hX hl (by omega) (by omega) dL_law_298 ?_
  refine G_callVI hC (c_X9_worth hA (i32_r _) (i32_r _) (i32_r _)) mv_L_38 rfl (by omega) (by omega) rfl (by decide) dL_law_299 rfl (Nat.le_of_ble_eq_true rfl) rfl (fun r1 M1 P1 h => ?_)
  obtain ⟨q0, q1, q2, q3⟩ := h
  have hB1 : MIv c M1 P1 S := MIv_fr hB q2 q3
  refine G_al2 hC dL_law_302 ?_
  refine G_al0 hC dL_law_303 ?_
  refine G_il3 hC dL_law_304 ?_
  refine G_iconst hC dL_law_305 ?_
  refine G_iadd hC dL_law_306 ?_
  refine G_scld (k := i + 1) hC hX hl (by omega) (by omega) dL_law_307 ?_
  refine G_al0 hC dL_law_308 ?_
  refine G_il3 hC dL_law_309 ?_
  refine G_iconst hC dL_law_310 ?_
  refine G_iadd hC dL_law_311 ?_
  refine G_scld (k := i + 2) hC hX hl (by omega) (by omega) dL_law_312 ?_
  refine G_al0 hC dL_law_313 ?_
  refine G_il3 hC dL_law_314 ?_
  refine G_iconst hC dL_law_315 ?_
  refine G_iadd hC dL_law_316 ?_
  refine G_scld (k := i + 3) hC hX hl (by omega) (by omega) dL_law_317 ?_
  refine G_callVI hC (c_X10_worth hS hK hB1 (i32_r _) (i32_r _) (i32_r _)) mv_L_42 rfl (by omega) (by omega) rfl (by decide) dL_law_318 rfl (Nat.le_of_ble_eq_true rfl) rfl (fun r2 M2 P2 h => ?_)
  obtain ⟨hPf, p0, p1, p2⟩ := h
  subst hPf
  have he : r1 = r2 := q0.trans p0.symm
  subst he
  exact G_icmpE hC dL_law_321 (by decide) (kk _ _ (LIv_st q1 p1 p2 (by omega) (by omega)))
set_option maxHeartbeats 4000000 in
set_option maxRecDepth 100000 in
theorem lq_6 {X : CX} {Y : CY} {Ls i c : Nat} {f : Nat → Int32} {M : Mem} {P : PMem} (hC : OK X Y cL_law RL 4 ret 10 420 77) (hX : SCR X (ya Y) Ls f) (hl : Ls ≤ 2048) (hi : i + 4 ≤ Ls) (hc : c ≤ 512) (hI : LIv c M P) (kk : ∀ M' P', LIv (c + 1) M' P' → G X Y 754 [vR 1000, vR 0, vR 45, vI (i : Int)] [] M' P') : G X Y 326 [vR 1000, vR 0, vR 45, vI (i : Int)] [] M P := by
  obtain ⟨S, hA, hB⟩ := hI
  have hS := hA.2.1
  have hK := TOK_I hA
  obtain ⟨N, lq, hLy⟩ := hA.2.2.2.2.2
  have hLk := hLy.lk
  refine G_al1 hC dL_law_326 ?_
  refine G_al0 hC dL_law_327 ?_
  refine G_il3 hC dL_law_328 ?_
  refine G_iconst hC dL_law_329 ?_
  refine G_iadd hC dL_law_330 ?_
  refine G_scld (k := i + 1) hC hX hl (by omega) (by omega) dL_law_331 ?_
  refine G_al0 hC dL_law_332 ?_
  refine G_il3 hC dL_law_333 ?_
  refine G_iconst hC dL_law_334 ?_
  refine G_iadd hC dL_law_335 ?_
  refine G_scld (k := i + 2) hC hX hl (by omega) (by omega) dL_law_336 ?_
  refine G_callVI hC (c_X9_hands hA (i32_r _) (i32_r _)) mv_L_43 rfl (by omega) (by omega) rfl (by decide) dL_law_337 rfl (Nat.le_of_ble_eq_true rfl) rfl (fun r1 M1 P1 h => ?_)
  obtain ⟨q0, q1, q2, q3⟩ := h
  have hB1 : MIv c M1 P1 S := MIv_fr hB q2 q3
  refine G_al2 hC dL_law_340 ?_
  refine G_al0 hC dL_law_341 ?_
  refine G_il3 hC dL_law_342 ?_
  refine G_iconst hC dL_law_343 ?_
  refine G_iadd hC dL_law_344 ?_
  refine G_scld (k := i + 1) hC hX hl (by omega) (by omega) dL_law_345 ?_
  refine G_al0 hC dL_law_346 ?_
  refine G_il3 hC dL_law_347 ?_
  refine G_iconst hC dL_law_348 ?_
  refine G_iadd hC dL_law_349 ?_
  refine G_scld (k := i + 2) hC hX hl (by omega) (by omega) dL_law_350 ?_
  refine G_callVI hC (c_X10_hands hS hB1 (i32_r _) (i32_r _)) mv_L_46 rfl (by omega) (by omega) rfl (by decide) dL_law_351 rfl (Nat.le_of_ble_eq_true rfl) rfl (fun r2 M2 P2 h => ?_)
  obtain ⟨hPf, p0, p1, p2⟩ := h
  subst hPf
  have he : r1 = r2 := q0.trans p0.symm
  subst he
  exact G_icmpE hC dL_law_354 (by decide) (kk _ _ (LIv_st q1 p1 p2 (by omega) (by omega)))
set_option maxHeartbeats 4000000 in
set_option maxRecDepth 100000 in
theorem lq_7 {X : CX} {Y : CY} {Ls i c : Nat} {f : Nat → Int32} {M : Mem} {P : PMem} (hC : OK X Y cL_law RL 4 ret 10 420 77) (hX : SCR X (ya Y) Ls f) (hl : Ls ≤ 2048) (hi : i + 4 ≤ Ls) (hc : c ≤ 512) (hI : LIv c M P) (kk : ∀ M' P', LIv (c + 1) M' P' → G X Y 754 [vR 1000, vR 0, vR 45, vI (i : Int)] [] M' P') : G X Y 359 [vR 1000, vR 0, vR 45, vI (i : Int)] [] M P := by
  obtain ⟨S, hA, hB⟩ := hI
  have hS := hA.2.1
  have hK := TOK_I hA
  obtain ⟨N, lq, hLy⟩ := hA.2.2.2.2.2
  have hLk := hLy.lk
  refine G_al1 hC dL_law_359 ?_
  refine G_al0 hC dL_law_360 ?_
  refine G_il3 hC dL_law_361 ?_
  refine G_iconst hC dL_law_362 ?_
  refine G_iadd hC dL_law_363 ?_
  refine G_scld (k := i + 1) hC hX hl (by omega) (by omega) dL_law_364 ?_
  refine G_al0 hC dL_law_365 ?_
  refine G_il3 hC dL_law_366 ?_
  refine G_iconst hC dL_law_367 ?_
  refine G_iadd hC dL_law_368 ?_
  refine G_scld (k := i + 2) hC hX hl (by omega) (by omega) dL_law_369 ?_
  refine G_callVI hC (c_X9_ask hA (i32_r _) (i32_r _)) mv_L_47 rfl (by omega) (by omega) rfl (by decide) dL_law_370 rfl (Nat.le_of_ble_eq_true rfl) rfl (fun r1 M1 P1 h => ?_)
  obtain ⟨q0, q1, q2, q3⟩ := h
  have hB1 : MIv c M1 P1 S := MIv_fr hB q2 q3
  refine G_al2 hC dL_law_373 ?_
  refine G_al0 hC dL_law_374 ?_
  refine G_il3 hC dL_law_375 ?_
  refine G_iconst hC dL_law_376 ?_
  refine G_iadd hC dL_law_377 ?_
  refine G_scld (k := i + 1) hC hX hl (by omega) (by omega) dL_law_378 ?_
  refine G_al0 hC dL_law_379 ?_
  refine G_il3 hC dL_law_380 ?_
  refine G_iconst hC dL_law_381 ?_
  refine G_iadd hC dL_law_382 ?_
  refine G_scld (k := i + 2) hC hX hl (by omega) (by omega) dL_law_383 ?_
  refine G_callVI hC (c_X10_ask hS hK hB1 (i32_r _) (i32_r _)) mv_L_50 rfl (by omega) (by omega) rfl (by decide) dL_law_384 rfl (Nat.le_of_ble_eq_true rfl) rfl (fun r2 M2 P2 h => ?_)
  obtain ⟨hPf, p0, p1, p2⟩ := h
  subst hPf
  have he : r1 = r2 := q0.trans p0.symm
  subst he
  exact G_icmpE hC dL_law_387 (by decide) (kk _ _ (LIv_st q1 p1 p2 (by omega) (by omega)))
set_option maxHeartbeats 4000000 in
set_option maxRecDepth 100000 in
theorem lq_8 {X : CX} {Y : CY} {Ls i c : Nat} {f : Nat → Int32} {M : Mem} {P : PMem} (hC : OK X Y cL_law RL 4 ret 10 420 77) (hX : SCR X (ya Y) Ls f) (hl : Ls ≤ 2048) (hi : i + 4 ≤ Ls) (hc : c ≤ 512) (hI : LIv c M P) (kk : ∀ M' P', LIv (c + 1) M' P' → G X Y 754 [vR 1000, vR 0, vR 45, vI (i : Int)] [] M' P') : G X Y 392 [vR 1000, vR 0, vR 45, vI (i : Int)] [] M P := by
  obtain ⟨S, hA, hB⟩ := hI
  have hS := hA.2.1
  have hK := TOK_I hA
  obtain ⟨N, lq, hLy⟩ := hA.2.2.2.2.2
  have hLk := hLy.lk
  refine G_al1 hC dL_law_392 ?_
  refine G_callVI hC (c_X9_undo hA) mv_L_51 rfl (by omega) (by omega) rfl (by decide) dL_law_393 rfl (Nat.le_of_ble_eq_true rfl) rfl (fun r1 M1 P1 h => ?_)
  obtain ⟨q0, q1, q2, q3⟩ := h
  have hB1 : MIv c M1 P1 S := MIv_fr hB q2 q3
  refine G_al2 hC dL_law_396 ?_
  refine G_callVI hC (c_X10_undo hS hB1) mv_L_54 rfl (by omega) (by omega) rfl (by decide) dL_law_397 rfl (Nat.le_of_ble_eq_true rfl) rfl (fun r2 M2 P2 h => ?_)
  obtain ⟨hPf, p0, p1, p2⟩ := h
  subst hPf
  have he : r1 = r2 := q0.trans p0.symm
  subst he
  exact G_icmpE hC dL_law_400 (by decide) (kk _ _ (LIv_st q1 p1 p2 (by omega) (by omega)))
set_option maxHeartbeats 4000000 in
set_option maxRecDepth 100000 in
theorem lq_9 {X : CX} {Y : CY} {Ls i c : Nat} {f : Nat → Int32} {M : Mem} {P : PMem} (hC : OK X Y cL_law RL 4 ret 10 420 77) (hX : SCR X (ya Y) Ls f) (hl : Ls ≤ 2048) (hi : i + 4 ≤ Ls) (hc : c ≤ 512) (hI : LIv c M P) (kk : ∀ M' P', LIv (c + 1) M' P' → G X Y 754 [vR 1000, vR 0, vR 45, vI (i : Int)] [] M' P') : G X Y 405 [vR 1000, vR 0, vR 45, vI (i : Int)] [] M P := by
  obtain ⟨S, hA, hB⟩ := hI
  have hS := hA.2.1
  have hK := TOK_I hA
  obtain ⟨N, lq, hLy⟩ := hA.2.2.2.2.2
  have hLk := hLy.lk
  refine G_al1 hC dL_law_405 ?_
  refine G_callVI hC (c_X9_evening hA (by omega)) mv_L_55 rfl (by omega) (by omega) rfl (by decide) dL_law_406 rfl (Nat.le_of_ble_eq_true rfl) rfl (fun r1 M1 P1 h => ?_)
  obtain ⟨q0, q1, q2, q3⟩ := h
  have hB1 : MIv c M1 P1 S := MIv_fr hB q2 q3
  refine G_al2 hC dL_law_409 ?_
  refine G_callVI hC (c_X10_evening hS hK hB1 (by omega)) mv_L_58 rfl (by omega) (by omega) rfl (by decide) dL_law_410 rfl (Nat.le_of_ble_eq_true rfl) rfl (fun r2 M2 P2 h => ?_)
  obtain ⟨hPf, p0, p1, p2⟩ := h
  subst hPf
  have he : r1 = r2 := q0.trans p0.symm
  subst he
  exact G_icmpE hC dL_law_413 (by decide) (kk _ _ (LIv_st q1 p1 p2 (by omega) (by omega)))
set_option maxHeartbeats 4000000 in
set_option maxRecDepth 100000 in
theorem lq_10 {X : CX} {Y : CY} {Ls i c : Nat} {f : Nat → Int32} {M : Mem} {P : PMem} (hC : OK X Y cL_law RL 4 ret 10 420 77) (hX : SCR X (ya Y) Ls f) (hl : Ls ≤ 2048) (hi : i + 4 ≤ Ls) (hc : c ≤ 512) (hI : LIv c M P) (kk : ∀ M' P', LIv (c + 1) M' P' → G X Y 754 [vR 1000, vR 0, vR 45, vI (i : Int)] [] M' P') : G X Y 418 [vR 1000, vR 0, vR 45, vI (i : Int)] [] M P := by
  obtain ⟨S, hA, hB⟩ := hI
  have hS := hA.2.1
  have hK := TOK_I hA
  obtain ⟨N, lq, hLy⟩ := hA.2.2.2.2.2
  have hLk := hLy.lk
  refine G_al1 hC dL_law_418 ?_
  refine G_al0 hC dL_law_419 ?_
  refine G_il3 hC dL_law_420 ?_
  refine G_iconst hC dL_law_421 ?_
  refine G_iadd hC dL_law_422 ?_
  refine G_scld (k := i + 1) hC hX hl (by omega) (by omega) dL_law_423 ?_
  refine G_al0 hC dL_law_424 ?_
  refine G_il3 hC dL_law_425 ?_
  refine G_iconst hC dL_law_426 ?_
  refine G_iadd hC dL_law_427 ?_
  refine G_scld (k := i + 2) hC hX hl (by omega) (by omega) dL_law_428 ?_
  refine G_callVI hC (c_X9_need hA (i32_r _) (i32_r _)) mv_L_59 rfl (by omega) (by omega) rfl (by decide) dL_law_429 rfl (Nat.le_of_ble_eq_true rfl) rfl (fun r1 M1 P1 h => ?_)
  obtain ⟨q0, q1, q2, q3⟩ := h
  have hB1 : MIv c M1 P1 S := MIv_fr hB q2 q3
  refine G_al2 hC dL_law_432 ?_
  refine G_al0 hC dL_law_433 ?_
  refine G_il3 hC dL_law_434 ?_
  refine G_iconst hC dL_law_435 ?_
  refine G_iadd hC dL_law_436 ?_
  refine G_scld (k := i + 1) hC hX hl (by omega) (by omega) dL_law_437 ?_
  refine G_al0 hC dL_law_438 ?_
  refine G_il3 hC dL_law_439 ?_
  refine G_iconst hC dL_law_440 ?_
  refine G_iadd hC dL_law_441 ?_
  refine G_scld (k := i + 2) hC hX hl (by omega) (by omega) dL_law_442 ?_
  refine G_callVI hC (c_X10_need hS hK hB1 hLk (by omega) (i32_r _) (i32_r _)) mv_L_62 rfl (by omega) (by omega) rfl (by decide) dL_law_443 rfl (Nat.le_of_ble_eq_true rfl) rfl (fun r2 M2 P2 h => ?_)
  obtain ⟨hPf, p0, p1, p2⟩ := h
  subst hPf
  have he : r1 = r2 := q0.trans p0.symm
  subst he
  exact G_icmpE hC dL_law_446 (by decide) (kk _ _ (LIv_st q1 p1 p2 (by omega) (by omega)))
set_option maxHeartbeats 4000000 in
set_option maxRecDepth 100000 in
theorem lq_11 {X : CX} {Y : CY} {Ls i c : Nat} {f : Nat → Int32} {M : Mem} {P : PMem} (hC : OK X Y cL_law RL 4 ret 10 420 77) (hX : SCR X (ya Y) Ls f) (hl : Ls ≤ 2048) (hi : i + 4 ≤ Ls) (hc : c ≤ 512) (hI : LIv c M P) (kk : ∀ M' P', LIv (c + 1) M' P' → G X Y 754 [vR 1000, vR 0, vR 45, vI (i : Int)] [] M' P') : G X Y 451 [vR 1000, vR 0, vR 45, vI (i : Int)] [] M P := by
  obtain ⟨S, hA, hB⟩ := hI
  have hS := hA.2.1
  have hK := TOK_I hA
  obtain ⟨N, lq, hLy⟩ := hA.2.2.2.2.2
  have hLk := hLy.lk
  refine G_al1 hC dL_law_451 ?_
  refine G_al0 hC dL_law_452 ?_
  refine G_il3 hC dL_law_453 ?_
  refine G_iconst hC dL_law_454 ?_
  refine G_iadd hC dL_law_455 ?_
  refine G_scld (k := i + 1) hC hX hl (by omega) (by omega) dL_law_456 ?_
  refine G_al0 hC dL_law_457 ?_
  refine G_il3 hC dL_law_458 ?_
  refine G_iconst hC dL_law_459 ?_
  refine G_iadd hC dL_law_460 ?_
  refine G_scld (k := i + 2) hC hX hl (by omega) (by omega) dL_law_461 ?_
  refine G_callVI hC (c_X9_first hA (i32_r _) (i32_r _)) mv_L_63 rfl (by omega) (by omega) rfl (by decide) dL_law_462 rfl (Nat.le_of_ble_eq_true rfl) rfl (fun r1 M1 P1 h => ?_)
  obtain ⟨q0, q1, q2, q3⟩ := h
  have hB1 : MIv c M1 P1 S := MIv_fr hB q2 q3
  refine G_al2 hC dL_law_465 ?_
  refine G_al0 hC dL_law_466 ?_
  refine G_il3 hC dL_law_467 ?_
  refine G_iconst hC dL_law_468 ?_
  refine G_iadd hC dL_law_469 ?_
  refine G_scld (k := i + 1) hC hX hl (by omega) (by omega) dL_law_470 ?_
  refine G_al0 hC dL_law_471 ?_
  refine G_il3 hC dL_law_472 ?_
  refine G_iconst hC dL_law_473 ?_
  refine G_iadd hC dL_law_474 ?_
  refine G_scld (k := i + 2) hC hX hl (by omega) (by omega) dL_law_475 ?_
  refine G_callVI hC (c_X10_first hS hK hB1 hLk (by omega) (i32_r _) (i32_r _)) mv_L_66 rfl (by omega) (by omega) rfl (by decide) dL_law_476 rfl (Nat.le_of_ble_eq_true rfl) rfl (fun r2 M2 P2 h => ?_)
  obtain ⟨hPf, p0, p1, p2⟩ := h
  subst hPf
  have he : r1 = r2 := q0.trans p0.symm
  subst he
  exact G_icmpE hC dL_law_479 (by decide) (kk _ _ (LIv_st q1 p1 p2 (by omega) (by omega)))
set_option maxHeartbeats 4000000 in
set_option maxRecDepth 100000 in
theorem lq_12 {X : CX} {Y : CY} {Ls i c : Nat} {f : Nat → Int32} {M : Mem} {P : PMem} (hC : OK X Y cL_law RL 4 ret 10 420 77) (hX : SCR X (ya Y) Ls f) (hl : Ls ≤ 2048) (hi : i + 4 ≤ Ls) (hc : c ≤ 512) (hI : LIv c M P) (kk : ∀ M' P', LIv (c + 1) M' P' → G X Y 754 [vR 1000, vR 0, vR 45, vI (i : Int)] [] M' P') : G X Y 484 [vR 1000, vR 0, vR 45, vI (i : Int)] [] M P := by
  obtain ⟨S, hA, hB⟩ := hI
  have hS := hA.2.1
  have hK := TOK_I hA
  obtain ⟨N, lq, hLy⟩ := hA.2.2.2.2.2
  have hLk := hLy.lk
  refine G_al1 hC dL_law_484 ?_
  refine G_al0 hC dL_law_485 ?_
  refine G_il3 hC dL_law_486 ?_
  refine G_iconst hC dL_law_487 ?_
  refine G_iadd hC dL_law_488 ?_
  refine G_scld (k := i + 1) hC hX hl (by omega) (by omega) dL_law_489 ?_
  refine G_al0 hC dL_law_490 ?_
  refine G_il3 hC dL_law_491 ?_
  refine G_iconst hC dL_law_492 ?_
  refine G_iadd hC dL_law_493 ?_
  refine G_scld (k := i + 2) hC hX hl (by omega) (by omega) dL_law_494 ?_
  refine G_callVI hC (c_X9_price hA (i32_r _) (i32_r _)) mv_L_67 rfl (by omega) (by omega) rfl (by decide) dL_law_495 rfl (Nat.le_of_ble_eq_true rfl) rfl (fun r1 M1 P1 h => ?_)
  obtain ⟨q0, q1, q2, q3⟩ := h
  have hB1 : MIv c M1 P1 S := MIv_fr hB q2 q3
  refine G_al2 hC dL_law_498 ?_
  refine G_al0 hC dL_law_499 ?_
  refine G_il3 hC dL_law_500 ?_
  refine G_iconst hC dL_law_501 ?_
  refine G_iadd hC dL_law_502 ?_
  refine G_scld (k := i + 1) hC hX hl (by omega) (by omega) dL_law_503 ?_
  refine G_al0 hC dL_law_504 ?_
  refine G_il3 hC dL_law_505 ?_
  refine G_iconst hC dL_law_506 ?_
  refine G_iadd hC dL_law_507 ?_
  refine G_scld (k := i + 2) hC hX hl (by omega) (by omega) dL_law_508 ?_
  refine G_callVI hC (c_X10_price hS hK hB1 hLk (by omega) (i32_r _) (i32_r _)) mv_L_70 rfl (by omega) (by omega) rfl (by decide) dL_law_509 rfl (Nat.le_of_ble_eq_true rfl) rfl (fun r2 M2 P2 h => ?_)
  obtain ⟨hPf, p0, p1, p2⟩ := h
  subst hPf
  have he : r1 = r2 := prT_u (price_ok hS ⟨N, lq, hLk⟩ q0) p0
  subst he
  exact G_icmpE hC dL_law_512 (by decide) (kk _ _ (LIv_st q1 p1 p2 (by omega) (by omega)))
set_option maxHeartbeats 4000000 in
set_option maxRecDepth 100000 in
theorem lq_13 {X : CX} {Y : CY} {Ls i c : Nat} {f : Nat → Int32} {M : Mem} {P : PMem} (hC : OK X Y cL_law RL 4 ret 10 420 77) (hX : SCR X (ya Y) Ls f) (hl : Ls ≤ 2048) (hi : i + 4 ≤ Ls) (hc : c ≤ 512) (hI : LIv c M P) (kk : ∀ M' P', LIv (c + 1) M' P' → G X Y 754 [vR 1000, vR 0, vR 45, vI (i : Int)] [] M' P') : G X Y 517 [vR 1000, vR 0, vR 45, vI (i : Int)] [] M P := by
  obtain ⟨S, hA, hB⟩ := hI
  have hS := hA.2.1
  have hK := TOK_I hA
  obtain ⟨N, lq, hLy⟩ := hA.2.2.2.2.2
  have hLk := hLy.lk
  refine G_al1 hC dL_law_517 ?_
  refine G_al0 hC dL_law_518 ?_
  refine G_il3 hC dL_law_519 ?_
  refine G_iconst hC dL_law_520 ?_
  refine G_iadd hC dL_law_521 ?_
  refine G_scld (k := i + 1) hC hX hl (by omega) (by omega) dL_law_522 ?_
  refine G_callVI hC (c_X9_never hA (i32_r _)) mv_L_71 rfl (by omega) (by omega) rfl (by decide) dL_law_523 rfl (Nat.le_of_ble_eq_true rfl) rfl (fun r1 M1 P1 h => ?_)
  obtain ⟨q0, q1, q2, q3⟩ := h
  have hB1 : MIv c M1 P1 S := MIv_fr hB q2 q3
  refine G_al2 hC dL_law_526 ?_
  refine G_al0 hC dL_law_527 ?_
  refine G_il3 hC dL_law_528 ?_
  refine G_iconst hC dL_law_529 ?_
  refine G_iadd hC dL_law_530 ?_
  refine G_scld (k := i + 1) hC hX hl (by omega) (by omega) dL_law_531 ?_
  refine G_callVI hC (c_X10_never hS hK hB1 hLk (by omega) (i32_r _)) mv_L_75 rfl (by omega) (by omega) rfl (by decide) dL_law_532 rfl (Nat.le_of_ble_eq_true rfl) rfl (fun r2 M2 P2 h => ?_)
  obtain ⟨hPf, p0, p1, p2⟩ := h
  subst hPf
  have he : r1 = r2 := q0.trans p0.symm
  subst he
  exact G_icmpE hC dL_law_535 (by decide) (kk _ _ (LIv_st q1 p1 p2 (by omega) (by omega)))
set_option maxHeartbeats 4000000 in
set_option maxRecDepth 100000 in
theorem lq_14 {X : CX} {Y : CY} {Ls i c : Nat} {f : Nat → Int32} {M : Mem} {P : PMem} (hC : OK X Y cL_law RL 4 ret 10 420 77) (hX : SCR X (ya Y) Ls f) (hl : Ls ≤ 2048) (hi : i + 4 ≤ Ls) (hc : c ≤ 512) (hI : LIv c M P) (kk : ∀ M' P', LIv (c + 1) M' P' → G X Y 754 [vR 1000, vR 0, vR 45, vI (i : Int)] [] M' P') : G X Y 540 [vR 1000, vR 0, vR 45, vI (i : Int)] [] M P := by
  obtain ⟨S, hA, hB⟩ := hI
  have hS := hA.2.1
  have hK := TOK_I hA
  obtain ⟨N, lq, hLy⟩ := hA.2.2.2.2.2
  have hLk := hLy.lk
  refine G_al1 hC dL_law_540 ?_
  refine G_callVI hC (c_X9_stuck hA) mv_L_76 rfl (by omega) (by omega) rfl (by decide) dL_law_541 rfl (Nat.le_of_ble_eq_true rfl) rfl (fun r1 M1 P1 h => ?_)
  obtain ⟨q0, q1, q2, q3⟩ := h
  have hB1 : MIv c M1 P1 S := MIv_fr hB q2 q3
  refine G_al2 hC dL_law_544 ?_
  refine G_callVI hC (c_X10_stuck hS hK hB1 hLk (by omega)) mv_L_79 rfl (by omega) (by omega) rfl (by decide) dL_law_545 rfl (Nat.le_of_ble_eq_true rfl) rfl (fun r2 M2 P2 h => ?_)
  obtain ⟨hPf, p0, p1, p2⟩ := h
  subst hPf
  have he : r1 = r2 := q0.trans p0.symm
  subst he
  exact G_icmpE hC dL_law_548 (by decide) (kk _ _ (LIv_st q1 p1 p2 (by omega) (by omega)))
set_option maxHeartbeats 4000000 in
set_option maxRecDepth 100000 in
theorem lq_15 {X : CX} {Y : CY} {Ls i c : Nat} {f : Nat → Int32} {M : Mem} {P : PMem} (hC : OK X Y cL_law RL 4 ret 10 420 77) (hX : SCR X (ya Y) Ls f) (hl : Ls ≤ 2048) (hi : i + 4 ≤ Ls) (hc : c ≤ 512) (hI : LIv c M P) (kk : ∀ M' P', LIv (c + 1) M' P' → G X Y 754 [vR 1000, vR 0, vR 45, vI (i : Int)] [] M' P') : G X Y 553 [vR 1000, vR 0, vR 45, vI (i : Int)] [] M P := by
  obtain ⟨S, hA, hB⟩ := hI
  have hS := hA.2.1
  have hK := TOK_I hA
  obtain ⟨N, lq, hLy⟩ := hA.2.2.2.2.2
  have hLk := hLy.lk
  refine G_al1 hC dL_law_553 ?_
  refine G_callVI hC (c_X9_rest hA) mv_L_80 rfl (by omega) (by omega) rfl (by decide) dL_law_554 rfl (Nat.le_of_ble_eq_true rfl) rfl (fun r1 M1 P1 h => ?_)
  obtain ⟨q0, q1, q2, q3⟩ := h
  have hB1 : MIv c M1 P1 S := MIv_fr hB q2 q3
  refine G_al2 hC dL_law_557 ?_
  refine G_callVI hC (c_X10_rest hS hK hB1 hLk (by omega)) mv_L_83 rfl (by omega) (by omega) rfl (by decide) dL_law_558 rfl (Nat.le_of_ble_eq_true rfl) rfl (fun r2 M2 P2 h => ?_)
  obtain ⟨hPf, p0, p1, p2⟩ := h
  subst hPf
  have he : r1 = r2 := q0.trans p0.symm
  subst he
  exact G_icmpE hC dL_law_561 (by decide) (kk _ _ (LIv_st q1 p1 p2 (by omega) (by omega)))
set_option maxHeartbeats 4000000 in
set_option maxRecDepth 100000 in
theorem lq_16 {X : CX} {Y : CY} {Ls i c : Nat} {f : Nat → Int32} {M : Mem} {P : PMem} (hC : OK X Y cL_law RL 4 ret 10 420 77) (hX : SCR X (ya Y) Ls f) (hl : Ls ≤ 2048) (hi : i + 4 ≤ Ls) (hc : c ≤ 512) (hI : LIv c M P) (kk : ∀ M' P', LIv (c + 1) M' P' → G X Y 754 [vR 1000, vR 0, vR 45, vI (i : Int)] [] M' P') : G X Y 566 [vR 1000, vR 0, vR 45, vI (i : Int)] [] M P := by
  obtain ⟨S, hA, hB⟩ := hI
  have hS := hA.2.1
  have hK := TOK_I hA
  obtain ⟨N, lq, hLy⟩ := hA.2.2.2.2.2
  have hLk := hLy.lk
  refine G_al1 hC dL_law_566 ?_
  refine G_al0 hC dL_law_567 ?_
  refine G_il3 hC dL_law_568 ?_
  refine G_iconst hC dL_law_569 ?_
  refine G_iadd hC dL_law_570 ?_
  refine G_scld (k := i + 1) hC hX hl (by omega) (by omega) dL_law_571 ?_
  refine G_callVI hC (c_X9_holdsUp hA (i32_r _)) mv_L_84 rfl (by omega) (by omega) rfl (by decide) dL_law_572 rfl (Nat.le_of_ble_eq_true rfl) rfl (fun r1 M1 P1 h => ?_)
  obtain ⟨q0, q1, q2, q3⟩ := h
  have hB1 : MIv c M1 P1 S := MIv_fr hB q2 q3
  refine G_al2 hC dL_law_575 ?_
  refine G_al0 hC dL_law_576 ?_
  refine G_il3 hC dL_law_577 ?_
  refine G_iconst hC dL_law_578 ?_
  refine G_iadd hC dL_law_579 ?_
  refine G_scld (k := i + 1) hC hX hl (by omega) (by omega) dL_law_580 ?_
  refine G_callVI hC (c_X10_holdsUp hS hK hB1 hLk (by omega) (i32_r _)) mv_L_87 rfl (by omega) (by omega) rfl (by decide) dL_law_581 rfl (Nat.le_of_ble_eq_true rfl) rfl (fun r2 M2 P2 h => ?_)
  obtain ⟨hPf, p0, p1, p2⟩ := h
  subst hPf
  have he : r1 = r2 := (holdR_ok hS hLk q0).trans p0.symm
  subst he
  exact G_icmpE hC dL_law_584 (by decide) (kk _ _ (LIv_st q1 p1 p2 (by omega) (by omega)))
set_option maxHeartbeats 4000000 in
set_option maxRecDepth 100000 in
theorem lq_17 {X : CX} {Y : CY} {Ls i c : Nat} {f : Nat → Int32} {M : Mem} {P : PMem} (hC : OK X Y cL_law RL 4 ret 10 420 77) (hX : SCR X (ya Y) Ls f) (hl : Ls ≤ 2048) (hi : i + 4 ≤ Ls) (hc : c ≤ 512) (hI : LIv c M P) (kk : ∀ M' P', LIv (c + 1) M' P' → G X Y 754 [vR 1000, vR 0, vR 45, vI (i : Int)] [] M' P') : G X Y 589 [vR 1000, vR 0, vR 45, vI (i : Int)] [] M P := by
  obtain ⟨S, hA, hB⟩ := hI
  have hS := hA.2.1
  have hK := TOK_I hA
  obtain ⟨N, lq, hLy⟩ := hA.2.2.2.2.2
  have hLk := hLy.lk
  refine G_al1 hC dL_law_589 ?_
  refine G_al0 hC dL_law_590 ?_
  refine G_il3 hC dL_law_591 ?_
  refine G_iconst hC dL_law_592 ?_
  refine G_iadd hC dL_law_593 ?_
  refine G_scld (k := i + 1) hC hX hl (by omega) (by omega) dL_law_594 ?_
  refine G_callVI hC (c_X9_liked hA (i32_r _)) mv_L_88 rfl (by omega) (by omega) rfl (by decide) dL_law_595 rfl (Nat.le_of_ble_eq_true rfl) rfl (fun r1 M1 P1 h => ?_)
  obtain ⟨q0, q1, q2, q3⟩ := h
  have hB1 : MIv c M1 P1 S := MIv_fr hB q2 q3
  refine G_al2 hC dL_law_598 ?_
  refine G_al0 hC dL_law_599 ?_
  refine G_il3 hC dL_law_600 ?_
  refine G_iconst hC dL_law_601 ?_
  refine G_iadd hC dL_law_602 ?_
  refine G_scld (k := i + 1) hC hX hl (by omega) (by omega) dL_law_603 ?_
  refine G_callVI hC (c_X10_liked hS hK hB1 (i32_r _)) mv_L_91 rfl (by omega) (by omega) rfl (by decide) dL_law_604 rfl (Nat.le_of_ble_eq_true rfl) rfl (fun r2 M2 P2 h => ?_)
  obtain ⟨hPf, p0, p1, p2⟩ := h
  subst hPf
  have he : r1 = r2 := q0.trans p0.symm
  subst he
  exact G_icmpE hC dL_law_607 (by decide) (kk _ _ (LIv_st q1 p1 p2 (by omega) (by omega)))
set_option maxHeartbeats 4000000 in
set_option maxRecDepth 100000 in
theorem lq_18 {X : CX} {Y : CY} {Ls i c : Nat} {f : Nat → Int32} {M : Mem} {P : PMem} (hC : OK X Y cL_law RL 4 ret 10 420 77) (hX : SCR X (ya Y) Ls f) (hl : Ls ≤ 2048) (hi : i + 4 ≤ Ls) (hc : c ≤ 512) (hI : LIv c M P) (kk : ∀ M' P', LIv (c + 1) M' P' → G X Y 754 [vR 1000, vR 0, vR 45, vI (i : Int)] [] M' P') : G X Y 612 [vR 1000, vR 0, vR 45, vI (i : Int)] [] M P := by
  obtain ⟨S, hA, hB⟩ := hI
  have hS := hA.2.1
  have hK := TOK_I hA
  obtain ⟨N, lq, hLy⟩ := hA.2.2.2.2.2
  have hLk := hLy.lk
  refine G_al1 hC dL_law_612 ?_
  refine G_callVI hC (c_X9_most hA) mv_L_92 rfl (by omega) (by omega) rfl (by decide) dL_law_613 rfl (Nat.le_of_ble_eq_true rfl) rfl (fun r1 M1 P1 h => ?_)
  obtain ⟨q0, q1, q2, q3⟩ := h
  have hB1 : MIv c M1 P1 S := MIv_fr hB q2 q3
  refine G_al2 hC dL_law_616 ?_
  refine G_callVI hC (c_X10_most hS hK hB1) mv_L_95 rfl (by omega) (by omega) rfl (by decide) dL_law_617 rfl (Nat.le_of_ble_eq_true rfl) rfl (fun r2 M2 P2 h => ?_)
  obtain ⟨hPf, p0, p1, p2⟩ := h
  subst hPf
  have he : r1 = r2 := isB_u (most_ok hS q0) p0
  subst he
  exact G_icmpE hC dL_law_620 (by decide) (kk _ _ (LIv_st q1 p1 p2 (by omega) (by omega)))
set_option maxHeartbeats 4000000 in
set_option maxRecDepth 100000 in
theorem lq_19 {X : CX} {Y : CY} {Ls i c : Nat} {f : Nat → Int32} {M : Mem} {P : PMem} (hC : OK X Y cL_law RL 4 ret 10 420 77) (hX : SCR X (ya Y) Ls f) (hl : Ls ≤ 2048) (hi : i + 4 ≤ Ls) (hc : c ≤ 512) (hI : LIv c M P) (kk : ∀ M' P', LIv (c + 1) M' P' → G X Y 754 [vR 1000, vR 0, vR 45, vI (i : Int)] [] M' P') : G X Y 625 [vR 1000, vR 0, vR 45, vI (i : Int)] [] M P := by
  obtain ⟨S, hA, hB⟩ := hI
  have hS := hA.2.1
  have hK := TOK_I hA
  obtain ⟨N, lq, hLy⟩ := hA.2.2.2.2.2
  have hLk := hLy.lk
  refine G_al1 hC dL_law_625 ?_
  refine G_callVI hC (c_X9_seats hA) mv_L_96 rfl (by omega) (by omega) rfl (by decide) dL_law_626 rfl (Nat.le_of_ble_eq_true rfl) rfl (fun r1 M1 P1 h => ?_)
  obtain ⟨q0, q1, q2, q3⟩ := h
  have hB1 : MIv c M1 P1 S := MIv_fr hB q2 q3
  refine G_al2 hC dL_law_629 ?_
  refine G_callVI hC (c_X10_seats hS hK hB1 hLk (by omega)) mv_L_99 rfl (by omega) (by omega) rfl (by decide) dL_law_630 rfl (Nat.le_of_ble_eq_true rfl) rfl (fun r2 M2 P2 h => ?_)
  obtain ⟨hPf, p0, p1, p2⟩ := h
  subst hPf
  have he : r1 = r2 := (seatR_ok hS q0).trans p0.symm
  subst he
  exact G_icmpE hC dL_law_633 (by decide) (kk _ _ (LIv_st q1 p1 p2 (by omega) (by omega)))
set_option maxHeartbeats 4000000 in
set_option maxRecDepth 100000 in
theorem lq_20 {X : CX} {Y : CY} {Ls i c : Nat} {f : Nat → Int32} {M : Mem} {P : PMem} (hC : OK X Y cL_law RL 4 ret 10 420 77) (hX : SCR X (ya Y) Ls f) (hl : Ls ≤ 2048) (hi : i + 4 ≤ Ls) (hc : c ≤ 512) (hI : LIv c M P) (kk : ∀ M' P', LIv (c + 1) M' P' → G X Y 754 [vR 1000, vR 0, vR 45, vI (i : Int)] [] M' P') : G X Y 638 [vR 1000, vR 0, vR 45, vI (i : Int)] [] M P := by
  obtain ⟨S, hA, hB⟩ := hI
  have hS := hA.2.1
  have hK := TOK_I hA
  obtain ⟨N, lq, hLy⟩ := hA.2.2.2.2.2
  have hLk := hLy.lk
  refine G_al1 hC dL_law_638 ?_
  refine G_al0 hC dL_law_639 ?_
  refine G_il3 hC dL_law_640 ?_
  refine G_iconst hC dL_law_641 ?_
  refine G_iadd hC dL_law_642 ?_
  refine G_scld (k := i + 1) hC hX hl (by omega) (by omega) dL_law_643 ?_
  refine G_callVL hC (c_X9_went hA (i32_r _)) mv_L_100 rfl (by omega) (by omega) rfl (by decide) dL_law_644 rfl (Nat.le_of_ble_eq_true rfl) rfl (fun r1 M1 P1 h => ?_)
  obtain ⟨q0, q1, q2, q3⟩ := h
  have hB1 : MIv c M1 P1 S := MIv_fr hB q2 q3
  refine G_al2 hC dL_law_647 ?_
  refine G_al0 hC dL_law_648 ?_
  refine G_il3 hC dL_law_649 ?_
  refine G_iconst hC dL_law_650 ?_
  refine G_iadd hC dL_law_651 ?_
  refine G_scld (k := i + 1) hC hX hl (by omega) (by omega) dL_law_652 ?_
  refine G_callVL hC (c_X10_went hS hK hB1 hLk (by omega) (i32_r _)) mv_L_104 rfl (by omega) (by omega) rfl (by decide) dL_law_653 rfl (Nat.le_of_ble_eq_true rfl) rfl (fun r2 M2 P2 h => ?_)
  obtain ⟨hPf, p0, p1, p2⟩ := h
  subst hPf
  have he : r1 = r2 := (wentR_ok hS q0).trans p0.symm
  subst he
  refine G_lcmpE hC dL_law_656 ?_
  exact G_if_eq (tgt := 754) hC dL_law_657 (by decide) (by omega) (fun _ => kk _ _ (LIv_st q1 p1 p2 (by omega) (by omega))) (fun w => absurd rfl w)
set_option maxHeartbeats 4000000 in
set_option maxRecDepth 100000 in
theorem lq_21 {X : CX} {Y : CY} {Ls i c : Nat} {f : Nat → Int32} {M : Mem} {P : PMem} (hC : OK X Y cL_law RL 4 ret 10 420 77) (hX : SCR X (ya Y) Ls f) (hl : Ls ≤ 2048) (hi : i + 4 ≤ Ls) (hc : c ≤ 512) (hI : LIv c M P) (kk : ∀ M' P', LIv (c + 1) M' P' → G X Y 754 [vR 1000, vR 0, vR 45, vI (i : Int)] [] M' P') : G X Y 662 [vR 1000, vR 0, vR 45, vI (i : Int)] [] M P := by
  obtain ⟨S, hA, hB⟩ := hI
  have hS := hA.2.1
  have hK := TOK_I hA
  obtain ⟨N, lq, hLy⟩ := hA.2.2.2.2.2
  have hLk := hLy.lk
  refine G_al1 hC dL_law_662 ?_
  refine G_al0 hC dL_law_663 ?_
  refine G_il3 hC dL_law_664 ?_
  refine G_iconst hC dL_law_665 ?_
  refine G_iadd hC dL_law_666 ?_
  refine G_scld (k := i + 1) hC hX hl (by omega) (by omega) dL_law_667 ?_
  refine G_al0 hC dL_law_668 ?_
  refine G_il3 hC dL_law_669 ?_
  refine G_iconst hC dL_law_670 ?_
  refine G_iadd hC dL_law_671 ?_
  refine G_scld (k := i + 2) hC hX hl (by omega) (by omega) dL_law_672 ?_
  refine G_al0 hC dL_law_673 ?_
  refine G_il3 hC dL_law_674 ?_
  refine G_iconst hC dL_law_675 ?_
  refine G_iadd hC dL_law_676 ?_
  refine G_scld (k := i + 3) hC hX hl (by omega) (by omega) dL_law_677 ?_
  refine G_callVI hC (c_X9_drawn hA (i32_r _) (i32_r _) (i32_r _)) mv_L_105 rfl (by omega) (by omega) rfl (by decide) dL_law_678 rfl (Nat.le_of_ble_eq_true rfl) rfl (fun r1 M1 P1 h => ?_)
  obtain ⟨q0, q1, q2, q3⟩ := h
  have hB1 : MIv c M1 P1 S := MIv_fr hB q2 q3
  refine G_al2 hC dL_law_681 ?_
  refine G_al0 hC dL_law_682 ?_
  refine G_il3 hC dL_law_683 ?_
  refine G_iconst hC dL_law_684 ?_
  refine G_iadd hC dL_law_685 ?_
  refine G_scld (k := i + 1) hC hX hl (by omega) (by omega) dL_law_686 ?_
  refine G_al0 hC dL_law_687 ?_
  refine G_il3 hC dL_law_688 ?_
  refine G_iconst hC dL_law_689 ?_
  refine G_iadd hC dL_law_690 ?_
  refine G_scld (k := i + 2) hC hX hl (by omega) (by omega) dL_law_691 ?_
  refine G_al0 hC dL_law_692 ?_
  refine G_il3 hC dL_law_693 ?_
  refine G_iconst hC dL_law_694 ?_
  refine G_iadd hC dL_law_695 ?_
  refine G_scld (k := i + 3) hC hX hl (by omega) (by omega) dL_law_696 ?_
  refine G_callVI hC (c_X10_drawn hS hK hB1 (i32_r _) (i32_r _) (i32_r _)) mv_L_108 rfl (by omega) (by omega) rfl (by decide) dL_law_697 rfl (Nat.le_of_ble_eq_true rfl) rfl (fun r2 M2 P2 h => ?_)
  obtain ⟨hPf, p0, p1, p2⟩ := h
  subst hPf
  have he : r1 = r2 := q0.trans p0.symm
  subst he
  exact G_icmpE hC dL_law_700 (by decide) (kk _ _ (LIv_st q1 p1 p2 (by omega) (by omega)))
set_option maxHeartbeats 4000000 in
set_option maxRecDepth 100000 in
theorem lq_22 {X : CX} {Y : CY} {Ls i c : Nat} {f : Nat → Int32} {M : Mem} {P : PMem} (hC : OK X Y cL_law RL 4 ret 10 420 77) (hX : SCR X (ya Y) Ls f) (hl : Ls ≤ 2048) (hi : i + 4 ≤ Ls) (hc : c ≤ 512) (hI : LIv c M P) (kk : ∀ M' P', LIv (c + 1) M' P' → G X Y 754 [vR 1000, vR 0, vR 45, vI (i : Int)] [] M' P') : G X Y 705 [vR 1000, vR 0, vR 45, vI (i : Int)] [] M P := by
  obtain ⟨S, hA, hB⟩ := hI
  have hS := hA.2.1
  have hK := TOK_I hA
  obtain ⟨N, lq, hLy⟩ := hA.2.2.2.2.2
  have hLk := hLy.lk
  refine G_al1 hC dL_law_705 ?_
  refine G_callVI hC (c_X9_keep hA) mv_L_109 rfl (by omega) (by omega) rfl (by decide) dL_law_706 rfl (Nat.le_of_ble_eq_true rfl) rfl (fun r1 M1 P1 h => ?_)
  obtain ⟨q0, q1, q2, q3⟩ := h
  have hB1 : MIv c M1 P1 S := MIv_fr hB q2 q3
  refine G_al2 hC dL_law_709 ?_
  refine G_callVI hC (c_X10_keep hS hB1) mv_L_112 rfl (by omega) (by omega) rfl (by decide) dL_law_710 rfl (Nat.le_of_ble_eq_true rfl) rfl (fun r2 M2 P2 h => ?_)
  obtain ⟨hPf, p0, p1, p2⟩ := h
  subst hPf
  have he : r1 = r2 := q0.trans p0.symm
  subst he
  exact G_icmpE hC dL_law_713 (by decide) (kk _ _ (LIv_st q1 p1 p2 (by omega) (by omega)))
set_option maxHeartbeats 4000000 in
set_option maxRecDepth 100000 in
theorem lq_23 {X : CX} {Y : CY} {Ls i c : Nat} {f : Nat → Int32} {M : Mem} {P : PMem} (hC : OK X Y cL_law RL 4 ret 10 420 77) (hX : SCR X (ya Y) Ls f) (hl : Ls ≤ 2048) (hi : i + 4 ≤ Ls) (hc : c ≤ 512) (hI : LIv c M P) (kk : ∀ M' P', LIv (c + 1) M' P' → G X Y 754 [vR 1000, vR 0, vR 45, vI (i : Int)] [] M' P') : G X Y 718 [vR 1000, vR 0, vR 45, vI (i : Int)] [] M P := by
  obtain ⟨S, hA, hB⟩ := hI
  have hS := hA.2.1
  have hK := TOK_I hA
  obtain ⟨N, lq, hLy⟩ := hA.2.2.2.2.2
  have hLk := hLy.lk
  refine G_al1 hC dL_law_718 ?_
  refine G_callVI hC (c_X9_back hA) mv_L_113 rfl (by omega) (by omega) rfl (by decide) dL_law_719 rfl (Nat.le_of_ble_eq_true rfl) rfl (fun r1 M1 P1 h => ?_)
  obtain ⟨q0, q1, q2, q3⟩ := h
  have hB1 : MIv c M1 P1 S := MIv_fr hB q2 q3
  refine G_al2 hC dL_law_722 ?_
  refine G_callVI hC (c_X10_back hS hB1) mv_L_116 rfl (by omega) (by omega) rfl (by decide) dL_law_723 rfl (Nat.le_of_ble_eq_true rfl) rfl (fun r2 M2 P2 h => ?_)
  obtain ⟨hPf, p0, p1, p2⟩ := h
  subst hPf
  have he : r1 = r2 := q0.trans p0.symm
  subst he
  exact G_icmpE hC dL_law_726 (by decide) (kk _ _ (LIv_st q1 p1 p2 (by omega) (by omega)))
set_option maxHeartbeats 4000000 in
set_option maxRecDepth 100000 in
theorem lq_24 {X : CX} {Y : CY} {Ls i c : Nat} {f : Nat → Int32} {M : Mem} {P : PMem} (hC : OK X Y cL_law RL 4 ret 10 420 77) (hX : SCR X (ya Y) Ls f) (hl : Ls ≤ 2048) (hi : i + 4 ≤ Ls) (hc : c ≤ 512) (hI : LIv c M P) (kk : ∀ M' P', LIv (c + 1) M' P' → G X Y 754 [vR 1000, vR 0, vR 45, vI (i : Int)] [] M' P') : G X Y 731 [vR 1000, vR 0, vR 45, vI (i : Int)] [] M P := by
  obtain ⟨S, hA, hB⟩ := hI
  have hS := hA.2.1
  have hK := TOK_I hA
  obtain ⟨N, lq, hLy⟩ := hA.2.2.2.2.2
  have hLk := hLy.lk
  refine G_al1 hC dL_law_731 ?_
  refine G_al0 hC dL_law_732 ?_
  refine G_il3 hC dL_law_733 ?_
  refine G_iconst hC dL_law_734 ?_
  refine G_iadd hC dL_law_735 ?_
  refine G_scld (k := i + 1) hC hX hl (by omega) (by omega) dL_law_736 ?_
  refine G_callVI hC (c_X9_count hA (i32_r _)) mv_L_117 rfl (by omega) (by omega) rfl (by decide) dL_law_737 rfl (Nat.le_of_ble_eq_true rfl) rfl (fun r1 M1 P1 h => ?_)
  obtain ⟨q0, q1, q2, q3⟩ := h
  have hB1 : MIv c M1 P1 S := MIv_fr hB q2 q3
  refine G_al2 hC dL_law_740 ?_
  refine G_al0 hC dL_law_741 ?_
  refine G_il3 hC dL_law_742 ?_
  refine G_iconst hC dL_law_743 ?_
  refine G_iadd hC dL_law_744 ?_
  refine G_scld (k := i + 1) hC hX hl (by omega) (by omega) dL_law_745 ?_
  refine G_callVI hC (c_X10_count hS hB1 (i32_r _)) mv_L_120 rfl (by omega) (by omega) rfl (by decide) dL_law_746 rfl (Nat.le_of_ble_eq_true rfl) rfl (fun r2 M2 P2 h => ?_)
  obtain ⟨hPf, p0, p1, p2⟩ := h
  subst hPf
  have he : r1 = r2 := q0.trans p0.symm
  subst he
  exact G_icmpE hC dL_law_749 (by decide) (kk _ _ (LIv_st q1 p1 p2 (by omega) (by omega)))
set_option maxHeartbeats 4000000 in
set_option maxRecDepth 100000 in
theorem lq_step {X : CX} {Y : CY} {Ls c : Nat} {f : Nat → Int32} {M : Mem} {P : PMem} (hC : OK X Y cL_law RL 4 ret 10 420 77) (hX : SCR X (ya Y) Ls f) (hl : Ls ≤ 2048) (hcb : c ≤ 600) (hI : LIv c M P) (hE : ∀ i M P, G X Y 760 [vR 1000, vR 0, vR 45, vI i] [] M P) (kk : ∀ M' P', 4 * c + 4 ≤ Ls → LIv (c + 1) M' P' → G X Y 18 [vR 1000, vR 0, vR 45, vI ((4 * (c + 1) : Nat) : Int)] [] M' P') : G X Y 18 [vR 1000, vR 0, vR 45, vI ((4 * c : Nat) : Int)] [] M P := by
  refine G_il3 hC dL_law_18 ?_
  refine G_al0 hC dL_law_19 ?_
  refine G_scln hC hX hl dL_law_20 ?_
  refine G_iconst hC dL_law_21 ?_
  refine G_isub hC dL_law_22 ?_
  refine G_icmp_gt (tgt := 760) hC dL_law_23 (by decide) (by omega) (by omega) (fun _ => hE _ _ _) (fun q => ?_)
  have hi : 4 * c + 4 ≤ Ls := by omega
  have hc : c ≤ 512 := by omega
  refine G_al0 hC dL_law_26 ?_
  refine G_il3 hC dL_law_27 ?_
  refine G_scld (k := 4 * c) hC hX hl rfl (by omega) dL_law_28 ?_
  refine G_bipush (n := 31) hC dL_law_29 (by decide) ?_
  refine G_iand hC dL_law_31 ?_
  have hb := bAnd31 (f (4 * c)).toInt
  generalize bAnd (f (4 * c)).toInt 31 = v at hb ⊢
  have h754 : ∀ M' P', LIv (c + 1) M' P' → G X Y 754 [vR 1000, vR 0, vR 45, vI ((4 * c : Nat) : Int)] [] M' P' := fun M' P' h => by
    refine G_iinc (L' := [vR 1000, vR 0, vR 45, vI ((4 * (c + 1) : Nat) : Int)]) hC dL_law_754 rfl rfl (by
      have : (((4 * c : Nat) : Int) + 4) = ((4 * (c + 1) : Nat) : Int) := by omega
      rw [← this]; rfl) ?_
    exact G_goto (tgt := 18) hC dL_law_757 (by decide) (kk M' P' hi h)
  rcases (show v = 0 ∨ v = 1 ∨ v = 2 ∨ v = 3 ∨ v = 4 ∨ v = 5 ∨ v = 6 ∨ v = 7 ∨ v = 8 ∨ v = 9 ∨ v = 10 ∨ v = 11 ∨ v = 12 ∨ v = 13 ∨ v = 14 ∨ v = 15 ∨ v = 16 ∨ v = 17 ∨ v = 18 ∨ v = 19 ∨ v = 20 ∨ v = 21 ∨ v = 22 ∨ v = 23 ∨ v = 24 ∨ 24 < v by omega) with rfl | rfl | rfl | rfl | rfl | rfl | rfl | rfl | rfl | rfl | rfl | rfl | rfl | rfl | rfl | rfl | rfl | rfl | rfl | rfl | rfl | rfl | rfl | rfl | rfl | hv
  · exact G_tabIn (tgt := 148) hC dL_law_32 (by omega) (by omega) (by omega) rfl (by decide) (lq_0 hC hX hl hi hc hI h754)
  · exact G_tabIn (tgt := 211) hC dL_law_32 (by omega) (by omega) (by omega) rfl (by decide) (lq_1 hC hX hl hi hc hI h754)
  · exact G_tabIn (tgt := 224) hC dL_law_32 (by omega) (by omega) (by omega) rfl (by decide) (lq_2 hC hX hl hi hc hI h754)
  · exact G_tabIn (tgt := 237) hC dL_law_32 (by omega) (by omega) (by omega) rfl (by decide) (lq_3 hC hX hl hi hc hI h754)
  · exact G_tabIn (tgt := 250) hC dL_law_32 (by omega) (by omega) (by omega) rfl (by decide) (lq_4 hC hX hl hi hc hI h754)
  · exact G_tabIn (tgt := 283) hC dL_law_32 (by omega) (by omega) (by omega) rfl (by decide) (lq_5 hC hX hl hi hc hI h754)
  · exact G_tabIn (tgt := 326) hC dL_law_32 (by omega) (by omega) (by omega) rfl (by decide) (lq_6 hC hX hl hi hc hI h754)
  · exact G_tabIn (tgt := 359) hC dL_law_32 (by omega) (by omega) (by omega) rfl (by decide) (lq_7 hC hX hl hi hc hI h754)
  · exact G_tabIn (tgt := 392) hC dL_law_32 (by omega) (by omega) (by omega) rfl (by decide) (lq_8 hC hX hl hi hc hI h754)
  · exact G_tabIn (tgt := 405) hC dL_law_32 (by omega) (by omega) (by omega) rfl (by decide) (lq_9 hC hX hl hi hc hI h754)
  · exact G_tabIn (tgt := 418) hC dL_law_32 (by omega) (by omega) (by omega) rfl (by decide) (lq_10 hC hX hl hi hc hI h754)
  · exact G_tabIn (tgt := 451) hC dL_law_32 (by omega) (by omega) (by omega) rfl (by decide) (lq_11 hC hX hl hi hc hI h754)
  · exact G_tabIn (tgt := 484) hC dL_law_32 (by omega) (by omega) (by omega) rfl (by decide) (lq_12 hC hX hl hi hc hI h754)
  · exact G_tabIn (tgt := 517) hC dL_law_32 (by omega) (by omega) (by omega) rfl (by decide) (lq_13 hC hX hl hi hc hI h754)
  · exact G_tabIn (tgt := 540) hC dL_law_32 (by omega) (by omega) (by omega) rfl (by decide) (lq_14 hC hX hl hi hc hI h754)
  · exact G_tabIn (tgt := 553) hC dL_law_32 (by omega) (by omega) (by omega) rfl (by decide) (lq_15 hC hX hl hi hc hI h754)
  · exact G_tabIn (tgt := 566) hC dL_law_32 (by omega) (by omega) (by omega) rfl (by decide) (lq_16 hC hX hl hi hc hI h754)
  · exact G_tabIn (tgt := 589) hC dL_law_32 (by omega) (by omega) (by omega) rfl (by decide) (lq_17 hC hX hl hi hc hI h754)
  · exact G_tabIn (tgt := 612) hC dL_law_32 (by omega) (by omega) (by omega) rfl (by decide) (lq_18 hC hX hl hi hc hI h754)
  · exact G_tabIn (tgt := 625) hC dL_law_32 (by omega) (by omega) (by omega) rfl (by decide) (lq_19 hC hX hl hi hc hI h754)
  · exact G_tabIn (tgt := 638) hC dL_law_32 (by omega) (by omega) (by omega) rfl (by decide) (lq_20 hC hX hl hi hc hI h754)
  · exact G_tabIn (tgt := 662) hC dL_law_32 (by omega) (by omega) (by omega) rfl (by decide) (lq_21 hC hX hl hi hc hI h754)
  · exact G_tabIn (tgt := 705) hC dL_law_32 (by omega) (by omega) (by omega) rfl (by decide) (lq_22 hC hX hl hi hc hI h754)
  · exact G_tabIn (tgt := 718) hC dL_law_32 (by omega) (by omega) (by omega) rfl (by decide) (lq_23 hC hX hl hi hc hI h754)
  · exact G_tabIn (tgt := 731) hC dL_law_32 (by omega) (by omega) (by omega) rfl (by decide) (lq_24 hC hX hl hi hc hI h754)
  · exact G_tabOut (tgt := 754) hC dL_law_32 (by omega) (Or.inr hv) (by decide) (h754 M P (by
      obtain ⟨S, hA, hB⟩ := hI
      exact ⟨S, hA.mono (by omega), hB.mono (by omega)⟩))
theorem lq_loop {X : CX} {Y : CY} {Ls : Nat} {f : Nat → Int32} (hC : OK X Y cL_law RL 4 ret 10 420 77) (hX : SCR X (ya Y) Ls f) (hl : Ls ≤ 2048) (hE : ∀ i M P, G X Y 760 [vR 1000, vR 0, vR 45, vI i] [] M P) : ∀ (n c : Nat) (M : Mem) (P : PMem), Ls < 4 * c + 4 * n → c ≤ 513 → LIv c M P → G X Y 18 [vR 1000, vR 0, vR 45, vI ((4 * c : Nat) : Int)] [] M P
  | 0, c, M, P, hn, hc, hI => lq_step hC hX hl (by omega) hI hE (fun _ _ h _ => absurd h (by omega))
  | n + 1, c, M, P, hn, hc, hI => lq_step hC hX hl (by omega) hI hE (fun M' P' h h' => lq_loop hC hX hl hE n (c + 1) M' P' (by omega) (by omega) h')
set_option maxHeartbeats 4000000 in
set_option maxRecDepth 100000 in
theorem lq_start {fm : Bool} {X : CX} {ad : Nat → Nat} {Ls : Nat} {f : Nat → Int32} {M : Mem} {P : PMem} (hR : (xR X).cells = 600000 ∧ (xR X).slots = 7302250) (hC : OK X (ad, 0, 0, 0) cL_law RL 4 ret 10 420 0) (hZ : ZS fm ad (xA X) (xs X) (xs X).heap) (hX : SCR X ad Ls f) (hl : Ls ≤ 2048) (hE : ∀ ad' i M P, OK X (ad', 77, 77, 65950) cL_law RL 4 ret 10 420 77 → G X (ad', 77, 77, 65950) 760 [vR 1000, vR 0, vR 45, vI i] [] M P) : G X (ad, 0, 0, 0) 0 [vR 1000, vX 1, vX 1, vX 1] [] M P := by
  obtain ⟨hRc, hRs⟩ := hR
  have hB0 : PB P 0 := fun i j q hi _ => absurd hi (by omega)
  refine G_new hC nw_L_7 rfl hB0 (by omega) (by omega) rfl rfl dL_law_0 (fun ad1 e1 hC1 => ?_)
  have hZ1 := hZ.ad (ad' := ad1) (fun k hk => e1 k (Or.inr (by omega)))
  have hX1 := hX.ad (ad' := ad1) (e1 1000 (Or.inr (by omega)))
  refine G_dup hC1 dL_law_3 rfl ?_
  refine G_callIZ2 hC1 hZ1 (c_X9_init (by unfold zM; rfl) (PB_z hB0)) mi_L_9 rfl (by decide) (Nat.le_of_ble_eq_true rfl) (by omega) (by omega) (by omega) rfl rfl rfl (fun r M' P' h => ⟨h.1, h.2.1⟩) dL_law_4 rfl (fun ad2 M2 P2 h2 e2 hC2 => ?_)
  obtain ⟨-, hB2, S0, hL0, hI0⟩ := h2
  have hX2 := hX1.ad (ad' := ad2) (e2 1000 (Or.inr (by omega)))
  refine G_as1 hC2 dL_law_7 rfl ?_
  refine G_new hC2 nw_L_10 rfl hB2 (by omega) (by omega) rfl rfl dL_law_8 (fun ad3 e3 hC3 => ?_)
  have hX3 := hX2.ad (ad' := ad3) (e3 1000 (Or.inr (by omega)))
  refine G_dup hC3 dL_law_11 rfl ?_
  refine G_callIB hC3 (c_X10_init (fun b => by unfold zM; rfl) (PB_z hB2)) mi_L_12 rfl (by decide) (Nat.le_of_ble_eq_true rfl) (by omega) (by omega) (by omega) rfl rfl rfl (fun r M' P' h => ⟨h.1, h.2.1⟩) dL_law_12 rfl (fun ad4 M4 P4 h4 e4 hC4 => ?_)
  obtain ⟨-, hB4, u1, u2, u3, u4⟩ := h4
  have hX4 := hX3.ad (ad' := ad4) (e4 1000 (Or.inr (by omega)))
  refine G_as2 hC4 dL_law_15 rfl ?_
  refine G_iconst hC4 dL_law_16 ?_
  refine G_is3 hC4 dL_law_17 rfl ?_
  have hLI : LIv 0 M4 P4 := ⟨_, CIv_fr hI0 (fun a ha b => (u1 a ha b).trans (zM_o (by omega) b)) (fun a ha b => (u2 a ha b).trans (zP_o (by omega) b)), u4 S0 hL0⟩
  exact lq_loop hC4 hX4 hl (fun i M P => hE ad4 i M P hC4) 513 0 M4 P4 (by omega) (by omega) hLI
