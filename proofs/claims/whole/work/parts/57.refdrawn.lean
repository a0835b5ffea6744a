/-! the reference: drawn evenings -/
theorem sF_at {f : Nat → Nat} {d g : Nat} : ∀ n s, s ≤ g → g < s + n → f g = d → (∀ i, s ≤ i → i < s + n → f i = d → i = g) → sFrom f (d : Int) n s = (g : Int)
  | 0, s, h1, h2, _, _ => by omega
  | n + 1, s, h1, h2, h3, h4 => by
    unfold sFrom
    by_cases z : f s = d
    · rw [if_pos (by omega), h4 s (Nat.le_refl _) (by omega) z]
    · rw [if_neg (by omega)]
      have : s ≠ g := fun e => z (by rw [e]; exact h3)
      exact sF_at n (s + 1) (by omega) (by omega) h3 (fun i a b => h4 i (by omega) (by omega))
def whoF (f : Nat → Nat) (d : Int) : Nat → Int
  | 0 => -4
  | k + 1 => if nv (f k) = d then (k : Int) else whoF f d k
theorem nv_d {x d : Nat} (hd : d < 6) : nv x = (d : Int) ↔ x = d := by
  unfold nv
  by_cases z : x = 7
  · rw [if_pos z]; omega
  · rw [if_neg z]; omega
theorem who_no {f : Nat → Nat} {d : Nat} (hd : d < 6) : ∀ n, (∀ g, g < n → f g ≠ d) → whoF f d n = -4
  | 0, _ => rfl
  | n + 1, h => by
    unfold whoF
    rw [if_neg (fun z => h n (by omega) ((nv_d hd).mp z))]
    exact who_no hd n (fun g hg => h g (by omega))
theorem who_at {f : Nat → Nat} {d g : Nat} (hd : d < 6) : ∀ n, g < n → f g = d → (∀ i, i < n → f i = d → i = g) → whoF f d n = (g : Int)
  | 0, h, _, _ => by omega
  | n + 1, h, h1, h2 => by
    unfold whoF
    by_cases z : f n = d
    · rw [if_pos ((nv_d hd).mpr z), h2 n (by omega) z]
    · rw [if_neg (fun y => z ((nv_d hd).mp y))]
      have : n ≠ g := fun e => z (by rw [e]; exact h1)
      exact who_at hd n (by omega) h1 (fun i hi => h2 i (by omega))
theorem who_ok {f : Nat → Nat} {d n : Nat} (hd : d < 6) (hn : n ≤ 6) (hi : injN n f) (h7 : ∀ i, n ≤ i → i < 6 → f i = 7) : whoF f d n = if sFrom f (d : Int) 6 0 < 0 then -4 else sFrom f (d : Int) 6 0 := by
  by_cases hx : ∃ g, g < n ∧ f g = d
  · obtain ⟨g, g1, g2⟩ := hx
    have hu : ∀ i, i < n → f i = d → i = g := fun i h1 h2 => hi i g h1 g1 (by omega) (by omega)
    have e := sF_at (f := f) (d := d) (g := g) 6 0 (by omega) (by omega) g2 (fun i _ h1 h2 => by
      rcases Nat.lt_or_ge i n with q | q
      · exact hu i q h2
      · have := h7 i q (by omega); omega)
    rw [who_at hd n g1 g2 hu, e, if_neg (by omega)]
  · have hno : ∀ g, g < n → f g ≠ d := fun g hg e => hx ⟨g, hg, e⟩
    rw [who_no hd n hno, if_pos]
    refine (sFrom_neg (f := f) (d := d) 6 0).mpr (fun i _ h1 h2 => ?_)
    rcases Nat.lt_or_ge i n with q | q
    · exact hno i q h2
    · have := h7 i q (by omega); omega
theorem who_r {f : Nat → Nat} {d : Int} : ∀ n, -4 ≤ whoF f d n ∧ whoF f d n ≤ n
  | 0 => by unfold whoF; omega
  | n + 1 => by
    have := who_r (f := f) (d := d) n
    unfold whoF
    split <;> omega
set_option maxHeartbeats 4000000 in
set_option maxRecDepth 100000 in
theorem c_X10_drawn {l : Launch} {c : Nat} {S : AS} {z n d : Int} {M : Mem} {P : PMem} (hS : SOK c S) (hK : TOK S) (hI : MIv c M P S) (hz0 : i32r z) (hn0 : i32r n) (hd0 : i32r d)  : CtI l yX10_drawn cX10_drawn 11 (some .int) 3 77 77 [vR 45, vI z, vI n, vI d] M P (mR c M P S (drawnS S z n d)) := by
  refine Ct_of (own := RX10) (L := [vR 45, vI z, vI n, vI d, vX 1, vX 1, vX 1, vX 1, vX 1, vX 1, vX 1]) (by decide) rfl rfl (Nat.le_of_ble_eq_true rfl) (fun X Y hl hC hQ => ?_)
  obtain ⟨hGr, ⟨⟨g0, g1, g2, g3, g4⟩, g5⟩, ⟨g6, g7⟩, g8, g9, ⟨g10, g11⟩, g12⟩ := id hI
  obtain ⟨s1, ⟨s2, s3, s4, s5, s6, s7, s8⟩, ⟨s9, s10, s11, s12⟩, s13, s14, s15, s16, s17, s18⟩ := id hS
  obtain ⟨m1, m2, m3, m4⟩ := id s14
  unfold i32r at *
  by_cases hv : (0 ≤ z ∧ z ≤ 9999 ∧ 1 ≤ n ∧ n ≤ 60 ∧ (d = -1 ∨ isD S d))
  · obtain ⟨z, rfl⟩ : ∃ e : Nat, z = (e : Int) := ⟨z.toNat, by omega⟩
    obtain ⟨n, rfl⟩ : ∃ e : Nat, n = (e : Int) := ⟨n.toNat, by omega⟩
    have hdr : -1 ≤ d ∧ d < 6 := by
      rcases hv.2.2.2.2 with q | q
      · omega
      · unfold isD at q; omega
    have h36 : ∀ x4 x5 x6 x7 x8 x9 x10 : AV, G X Y 36 [vR 45, vI z, vI n, vI d, x4, x5, x6, x7, x8, x9, x10] [] M P := by
      intro x4 x5 x6 x7 x8 x9 x10
      refine G_al0 hC dX10_drawn_36 ?_
      refine G_callVV hC (c_X10_sits hGr g0 s7) mv_X10_220 (by first | assumption | rfl) (by omega) (by decide) rfl (by decide) dX10_drawn_37 rfl (Nat.le_of_ble_eq_true rfl) rfl (fun M37 P37 h37 => ?_)
      obtain ⟨rfl, v0⟩ := h37
      obtain ⟨v1, v2⟩ := si_R hS hK hI v0
      obtain ⟨v3, v4⟩ := siI_M hI v0
      have n0 : M37 45 0 = (tn (sT S) : Int) := v1.1.1
      have h138 : ∀ (s : (Nat → Nat) × Nat) (M2 : Mem), SpR M2 (tn (sT S)) s.1 → lieOK s.1 → AR (tn (sT S)) (sF0 S) s.1 → s.2 ≤ n → eqx s63 M37 M2 → s = dwF (sT S) z n 0 ((sNow S).1, 0) → ∀ (c2 g : Nat) (gv wv : Int) (x7 x8 x9 x10 : AV), g + c2 = tn (sT S) → gv = (g : Int) → wv = whoF s.1 d g → G X Y 138 [vR 45, vI z, vI n, vI d, vI s.2, vI wv, vI gv, x7, x8, x9, x10] [] M2 P := by
        intro s M2 hSp hli hAR hs2 hE he c2
        have z0 : M2 45 0 = (tn (sT S) : Int) := by rw [hE 45 (by unfold s63; omega)]; exact n0
        have w1 : MIv c M2 P S := MIv_x v3 (fun a h1 h2 b => hE a (by unfold s63; omega) b) (fun b hb => hE 45 (by unfold s63; omega) b) (qMk_x v3.2.2.2.2.2.2 (hE 45 (by unfold s63; omega) 37) (hE 67 (by unfold s63; omega)))
        have hex : eqx mdX M M2 := v4.trans (fun a ha b => by unfold mdX at ha; exact hE a (by unfold s63; omega) b)
        induction c2 with
        | zero =>
          intro g gv wv x7 x8 x9 x10 hgc e1 e2
          subst e1; subst e2
          have hgn : g = tn (sT S) := by omega
          rw [hgn]
          have hwr := who_r (f := s.1) (d := d) (tn (sT S))
          have hfin : ¬ d = -1 → whoF s.1 d (tn (sT S)) = drawnS S z n d := fun hd1 => by
            obtain ⟨d', rfl⟩ : ∃ e : Nat, d = (e : Int) := ⟨d.toNat, by omega⟩
            rw [who_ok (by omega) s7 (AR_inj s12 hAR) (fun i a b => hAR.1 i a b)]
            unfold drawnS
            rw [if_pos hv, if_neg hd1]
            simp only [Int.toNat_natCast]
            rw [← he]
          have hfin2 : d = -1 → (s.2 : Int) = drawnS S z n d := fun hd1 => by
            unfold drawnS
            rw [if_pos hv, if_pos hd1]
            simp only [Int.toNat_natCast]
            rw [← he]
          refine G_il6 hC dX10_drawn_138 ?_
          refine G_al0 hC dX10_drawn_140 ?_
          refine G_getI hC fl_X10_116 (by first | assumption | rfl) (by omega) dX10_drawn_141 ?_
          rw [z0]
          refine G_icmp_ge (tgt := 173) hC dX10_drawn_144 (by decide) (by omega) (by omega) (fun c144 => ?_) (fun c144 => ?_)
          · refine G_il3 hC dX10_drawn_173 ?_
            refine G_iconst hC dX10_drawn_174 ?_
            refine G_icmp_ne (tgt := 183) hC dX10_drawn_175 (by decide) (by omega) (by omega) (fun c175 => ?_) (fun c175 => ?_)
            · refine G_il5 hC dX10_drawn_183 ?_
              exact G_iret hC hQ dX10_drawn_185 ⟨_, rfl, rfl, by first | exact hfin c175 | exact hfin2 c175, w1, hex⟩
            · refine G_il4 hC dX10_drawn_178 ?_
              refine G_goto (tgt := 185) hC dX10_drawn_180 (by decide) ?_
              exact G_iret hC hQ dX10_drawn_185 ⟨_, rfl, rfl, by first | exact hfin c175 | exact hfin2 c175, w1, hex⟩
          · exact absurd c144 (by omega)
        | succ c2 ih =>
          intro g gv wv x7 x8 x9 x10 hgc e1 e2
          subst e1; subst e2
          have zs : M2 63 g = nv (s.1 g) := hSp g (by omega)
          have hnr := nv_r (hli.lo g)
          refine G_il6 hC dX10_drawn_138 ?_
          refine G_al0 hC dX10_drawn_140 ?_
          refine G_getI hC fl_X10_116 (by first | assumption | rfl) (by omega) dX10_drawn_141 ?_
          rw [z0]
          refine G_icmp_ge (tgt := 173) hC dX10_drawn_144 (by decide) (by omega) (by omega) (fun c144 => ?_) (fun c144 => ?_)
          · exact absurd c144 (by omega)
          · refine G_al0 hC dX10_drawn_147 ?_
            refine G_getR hC fl_X10_61 (by first | assumption | rfl) (by omega) (by first | assumption | exact hGr _ _ rfl) dX10_drawn_148 ?_
            refine G_il6 hC dX10_drawn_151 ?_
            refine G_ialoadN (n := g) hC (by first | assumption | rfl) (by omega) (by omega) (by omega) dX10_drawn_153 ?_
            rw [zs]
            refine G_il3 hC dX10_drawn_154 ?_
            refine G_icmp_ne (tgt := 163) hC dX10_drawn_155 (by decide) (by omega) (by omega) (fun c155 => ?_) (fun c155 => ?_)
            · refine G_il5 hC dX10_drawn_163 ?_
              refine G_is5 hC dX10_drawn_165 rfl ?_
              refine G_inc6 hC dX10_drawn_167 rfl ?_
              refine G_goto (tgt := 138) hC dX10_drawn_170 (by decide) ?_
              first
                | exact ih (g + 1) _ _ _ _ _ _ (by omega) (by omega) (by rw [whoF, if_pos c155])
                | exact ih (g + 1) _ _ _ _ _ _ (by omega) (by omega) (by rw [whoF, if_neg c155])
            · refine G_il6 hC dX10_drawn_158 ?_
              refine G_goto (tgt := 165) hC dX10_drawn_160 (by decide) ?_
              refine G_is5 hC dX10_drawn_165 rfl ?_
              refine G_inc6 hC dX10_drawn_167 rfl ?_
              refine G_goto (tgt := 138) hC dX10_drawn_170 (by decide) ?_
              first
                | exact ih (g + 1) _ _ _ _ _ _ (by omega) (by omega) (by rw [whoF, if_pos c155])
                | exact ih (g + 1) _ _ _ _ _ _ (by omega) (by omega) (by rw [whoF, if_neg c155])
      have h46 : ∀ (c2 k : Nat) (kv : Int) (s : (Nat → Nat) × Nat) (M2 : Mem) (x6 x7 x8 x9 x10 : AV), k + c2 = n → kv = (k : Int) → SpR M2 (tn (sT S)) s.1 → lieOK s.1 → AR (tn (sT S)) (sF0 S) s.1 → s.2 ≤ k → eqx s63 M37 M2 → dwF (sT S) z c2 k s = dwF (sT S) z n 0 ((sNow S).1, 0) → G X Y 46 [vR 45, vI z, vI n, vI d, vI s.2, vI kv, x6, x7, x8, x9, x10] [] M2 P := by
        intro c2
        induction c2 with
        | zero =>
          intro k kv s M2 x6 x7 x8 x9 x10 hk0 e1 hSp hli hAR hs2 hE he
          subst e1
          replace he : s = dwF (sT S) z n 0 ((sNow S).1, 0) := he
          refine G_il5 hC dX10_drawn_46 ?_
          refine G_il2 hC dX10_drawn_48 ?_
          refine G_icmp_ge (tgt := 131) hC dX10_drawn_49 (by decide) (by omega) (by omega) (fun c49 => ?_) (fun c49 => ?_)
          · refine G_bipush hC dX10_drawn_131 (by decide) ?_
            refine G_is5 hC dX10_drawn_133 rfl ?_
            refine G_iconst hC dX10_drawn_135 ?_
            refine G_is6 hC dX10_drawn_136 rfl ?_
            exact h138 s M2 hSp hli hAR (by omega) hE he (tn (sT S)) 0 _ _ _ _ _ _ (by omega) rfl rfl
          · exact absurd c49 (by omega)
        | succ c2 ih =>
          intro k kv s M2 x6 x7 x8 x9 x10 hk0 e1 hSp hli hAR hs2 hE he
          subst e1
          have z0 : M2 45 0 = (tn (sT S) : Int) := by rw [hE 45 (by unfold s63; omega)]; exact n0
          have hk2 := SkR_l v1 (lK_63 hE)
          have hdw := drw_lt (z := z) (k := k)
          have hm1 : drw z k % tn (sT S) < tn (sT S) := Nat.mod_lt _ (by omega)
          have hm2 : drw z k / 8 % tn (sT S) < tn (sT S) := Nat.mod_lt _ (by omega)
          have hx : 7919 * z + 6151 * k + 1 ≤ 100000000 := by omega
          have hxx : (7919 * z + 6151 * k + 1) * (7919 * z + 6151 * k + 1) ≤ 100000000 * 100000000 := Nat.mul_le_mul hx hx
          have hxe : ((7919 : Int) * z + 6151 * k + 1) * (7919 * z + 6151 * k + 1) = (((7919 * z + 6151 * k + 1) * (7919 * z + 6151 * k + 1) : Nat) : Int) := by simp
          have hdr : (((7919 : Int) * z + 6151 * k + 1) * (7919 * z + 6151 * k + 1)) % 65521 = ((drw z k : Nat) : Int) := by rw [hxe]; rfl
          have hj1 : ((drw z k : Nat) : Int) / 8 % (tn (sT S) : Int) = ((drw z k / 8 % tn (sT S) : Nat) : Int) := by simp
          have hi1 : ((drw z k : Nat) : Int) % (tn (sT S) : Int) = ((drw z k % tn (sT S) : Nat) : Int) := by simp
          by_cases hcan : can (sT S) s.1 (drw z k % tn (sT S)) (drw z k / 8 % tn (sT S))
          · replace he : dwF (sT S) z c2 (k + 1) (aft (sT S) s.1 (drw z k % tn (sT S)) (drw z k / 8 % tn (sT S)), s.2 + 1) = dwF (sT S) z n 0 ((sNow S).1, 0) := by
              rw [← he, dwF_1 hcan]
            refine G_il5 hC dX10_drawn_46 ?_
            refine G_il2 hC dX10_drawn_48 ?_
            refine G_icmp_ge (tgt := 131) hC dX10_drawn_49 (by decide) (by omega) (by omega) (fun c49 => ?_) (fun c49 => ?_)
            · exact absurd c49 (by omega)
            · refine G_ldc2 (z := 7919) hC kl_X10_307 (by decide) dX10_drawn_52 ?_
              refine G_il1 hC dX10_drawn_55 ?_
              refine G_i2l hC dX10_drawn_56 (by omega) ?_
              refine G_lmul hC dX10_drawn_57 ?_
              refine G_ldc2 (z := 6151) hC kl_X10_309 (by decide) dX10_drawn_58 ?_
              refine G_il5 hC dX10_drawn_61 ?_
              refine G_i2l hC dX10_drawn_63 (by omega) ?_
              refine G_lmul hC dX10_drawn_64 ?_
              refine G_ladd hC dX10_drawn_65 ?_
              refine G_lconst (z := 1) hC dX10_drawn_66 (by decide) ?_
              refine G_ladd hC dX10_drawn_67 ?_
              refine G_ls6 hC dX10_drawn_68 rfl ?_
              refine G_ll6 hC dX10_drawn_70 ?_
              refine G_ll6 hC dX10_drawn_72 ?_
              refine G_lmul hC dX10_drawn_74 ?_
              refine G_ldc2 (z := 65521) hC kl_X10_311 (by decide) dX10_drawn_75 ?_
              refine G_lrem hC dX10_drawn_78 (by rw [hxe]; omega) (by omega) ?_
              refine G_l2i hC dX10_drawn_79 ?_
              rw [hdr]
              refine G_is8 hC dX10_drawn_80 rfl ?_
              refine G_il8 hC dX10_drawn_82 ?_
              refine G_bipush hC dX10_drawn_84 (by decide) ?_
              refine G_idiv hC dX10_drawn_86 (by omega) (by omega) ?_
              refine G_al0 hC dX10_drawn_87 ?_
              refine G_getI hC fl_X10_116 (by first | assumption | rfl) (by omega) dX10_drawn_88 ?_
              rw [z0]
              refine G_irem hC dX10_drawn_91 (by omega) (by omega) ?_
              rw [hj1]
              refine G_is9 hC dX10_drawn_92 rfl ?_
              refine G_il8 hC dX10_drawn_94 ?_
              refine G_al0 hC dX10_drawn_96 ?_
              refine G_getI hC fl_X10_116 (by first | assumption | rfl) (by omega) dX10_drawn_97 ?_
              rw [z0]
              refine G_irem hC dX10_drawn_100 (by omega) (by omega) ?_
              rw [hi1]
              refine G_is10 hC dX10_drawn_101 rfl ?_
              refine G_al0 hC dX10_drawn_103 ?_
              refine G_il10 hC dX10_drawn_104 ?_
              refine G_il9 hC dX10_drawn_106 ?_
              refine G_callVI hC (c_X10_mayAsk (i := drw z k % tn (sT S)) (j := drw z k / 8 % tn (sT S)) hGr hk2 hSp (lieOK_N hli) hm1 hm2) mv_X10_223 (by first | assumption | rfl) (by omega) (by decide) rfl (by decide) dX10_drawn_108 rfl (Nat.le_of_ble_eq_true rfl) rfl (fun z108 M108 P108 h108 => ?_)
              obtain ⟨rfl, rfl, rfl⟩ := h108
              rw [canI_1 hcan]
              refine G_if_eq (tgt := 125) hC dX10_drawn_111 (by decide) (by omega) (fun c111 => ?_) (fun c111 => ?_)
              · exact absurd c111 (by omega)
              · refine G_al0 hC dX10_drawn_114 ?_
                refine G_il10 hC dX10_drawn_115 ?_
                refine G_il9 hC dX10_drawn_117 ?_
                refine G_callVV hC (c_X10_asks (i := drw z k % tn (sT S)) (j := drw z k / 8 % tn (sT S)) hGr hk2 hSp (lieOK_N hli) hm1 hm2 hcan.1) mv_X10_230 (by first | assumption | rfl) (by omega) (by decide) rfl (by decide) dX10_drawn_119 rfl (Nat.le_of_ble_eq_true rfl) rfl (fun M119 P119 h119 => ?_)
                obtain ⟨rfl, a1, a2⟩ := h119
                refine G_inc4 hC dX10_drawn_122 rfl ?_
                refine G_inc5 hC dX10_drawn_125 rfl ?_
                refine G_goto (tgt := 46) hC dX10_drawn_128 (by decide) ?_
                exact ih (k + 1) _ (aft (sT S) s.1 (drw z k % tn (sT S)) (drw z k / 8 % tn (sT S)), s.2 + 1) _ _ _ _ _ _ (by omega) (by omega) a1 (aft_lie s6 s7 hm1 hm2 hcan.1 s9 hli hAR) (aft_AR s6 s7 hm1 hm2 hcan.1 hAR) (by show s.2 + 1 ≤ _; omega) (hE.trans a2) he
          · replace he : dwF (sT S) z c2 (k + 1) s = dwF (sT S) z n 0 ((sNow S).1, 0) := by
              rw [← he, dwF_0 hcan]
            refine G_il5 hC dX10_drawn_46 ?_
            refine G_il2 hC dX10_drawn_48 ?_
            refine G_icmp_ge (tgt := 131) hC dX10_drawn_49 (by decide) (by omega) (by omega) (fun c49 => ?_) (fun c49 => ?_)
            · exact absurd c49 (by omega)
            · refine G_ldc2 (z := 7919) hC kl_X10_307 (by decide) dX10_drawn_52 ?_
              refine G_il1 hC dX10_drawn_55 ?_
              refine G_i2l hC dX10_drawn_56 (by omega) ?_
              refine G_lmul hC dX10_drawn_57 ?_
              refine G_ldc2 (z := 6151) hC kl_X10_309 (by decide) dX10_drawn_58 ?_
              refine G_il5 hC dX10_drawn_61 ?_
              refine G_i2l hC dX10_drawn_63 (by omega) ?_
              refine G_lmul hC dX10_drawn_64 ?_
              refine G_ladd hC dX10_drawn_65 ?_
              refine G_lconst (z := 1) hC dX10_drawn_66 (by decide) ?_
              refine G_ladd hC dX10_drawn_67 ?_
              refine G_ls6 hC dX10_drawn_68 rfl ?_
              refine G_ll6 hC dX10_drawn_70 ?_
              refine G_ll6 hC dX10_drawn_72 ?_
              refine G_lmul hC dX10_drawn_74 ?_
              refine G_ldc2 (z := 65521) hC kl_X10_311 (by decide) dX10_drawn_75 ?_
              refine G_lrem hC dX10_drawn_78 (by rw [hxe]; omega) (by omega) ?_
              refine G_l2i hC dX10_drawn_79 ?_
              rw [hdr]
              refine G_is8 hC dX10_drawn_80 rfl ?_
              refine G_il8 hC dX10_drawn_82 ?_
              refine G_bipush hC dX10_drawn_84 (by decide) ?_
              refine G_idiv hC dX10_drawn_86 (by omega) (by omega) ?_
              refine G_al0 hC dX10_drawn_87 ?_
              refine G_getI hC fl_X10_116 (by first | assumption | rfl) (by omega) dX10_drawn_88 ?_
              rw [z0]
              refine G_irem hC dX10_drawn_91 (by omega) (by omega) ?_
              rw [hj1]
              refine G_is9 hC dX10_drawn_92 rfl ?_
              refine G_il8 hC dX10_drawn_94 ?_
              refine G_al0 hC dX10_drawn_96 ?_
              refine G_getI hC fl_X10_116 (by first | assumption | rfl) (by omega) dX10_drawn_97 ?_
              rw [z0]
              refine G_irem hC dX10_drawn_100 (by omega) (by omega) ?_
              rw [hi1]
              refine G_is10 hC dX10_drawn_101 rfl ?_
              refine G_al0 hC dX10_drawn_103 ?_
              refine G_il10 hC dX10_drawn_104 ?_
              refine G_il9 hC dX10_drawn_106 ?_
              refine G_callVI hC (c_X10_mayAsk (i := drw z k % tn (sT S)) (j := drw z k / 8 % tn (sT S)) hGr hk2 hSp (lieOK_N hli) hm1 hm2) mv_X10_223 (by first | assumption | rfl) (by omega) (by decide) rfl (by decide) dX10_drawn_108 rfl (Nat.le_of_ble_eq_true rfl) rfl (fun z108 M108 P108 h108 => ?_)
              obtain ⟨rfl, rfl, rfl⟩ := h108
              rw [canI_0 hcan]
              refine G_if_eq (tgt := 125) hC dX10_drawn_111 (by decide) (by omega) (fun c111 => ?_) (fun c111 => ?_)
              · refine G_inc5 hC dX10_drawn_125 rfl ?_
                refine G_goto (tgt := 46) hC dX10_drawn_128 (by decide) ?_
                exact ih (k + 1) _ s _ _ _ _ _ _ (by omega) (by omega) hSp hli hAR (by omega) hE he
              · exact absurd rfl c111
      refine G_iconst hC dX10_drawn_40 ?_
      refine G_is4 hC dX10_drawn_41 rfl ?_
      refine G_iconst hC dX10_drawn_43 ?_
      refine G_is5 hC dX10_drawn_44 rfl ?_
      exact h46 n 0 _ ((sNow S).1, 0) _ _ _ _ _ _ (by omega) rfl v2 m1 m2 (by omega) eqx.refl rfl
    by_cases hd1 : d = -1
    · refine G_il1 hC dX10_drawn_0 ?_
      refine G_iconst hC dX10_drawn_1 ?_
      refine G_sipush hC dX10_drawn_2 (by decide) ?_
      refine G_callSI hC (c_in1 (by unfold i32r; omega) (by unfold i32r; omega) (by unfold i32r; omega) ⟨by omega, by omega⟩) ms_X10_119 (by decide) rfl (by decide) dX10_drawn_5 rfl (Nat.le_of_ble_eq_true rfl) rfl (fun z5 M5 P5 h5 => ?_)
      obtain ⟨rfl, rfl, rfl⟩ := h5
      refine G_if_eq (tgt := 34) hC dX10_drawn_8 (by decide) (by omega) (fun c8 => ?_) (fun c8 => ?_)
      · exact absurd c8 (by omega)
      · refine G_il2 hC dX10_drawn_11 ?_
        refine G_iconst hC dX10_drawn_12 ?_
        refine G_bipush hC dX10_drawn_13 (by decide) ?_
        refine G_callSI hC (c_in1 (by unfold i32r; omega) (by unfold i32r; omega) (by unfold i32r; omega) ⟨by omega, by omega⟩) ms_X10_119 (by decide) rfl (by decide) dX10_drawn_15 rfl (Nat.le_of_ble_eq_true rfl) rfl (fun z15 M15 P15 h15 => ?_)
        obtain ⟨rfl, rfl, rfl⟩ := h15
        refine G_if_eq (tgt := 34) hC dX10_drawn_18 (by decide) (by omega) (fun c18 => ?_) (fun c18 => ?_)
        · exact absurd c18 (by omega)
        · refine G_il3 hC dX10_drawn_21 ?_
          refine G_iconst hC dX10_drawn_22 ?_
          refine G_icmp_eq (tgt := 36) hC dX10_drawn_23 (by decide) (by omega) (by omega) (fun c23 => ?_) (fun c23 => ?_)
          · exact h36 _ _ _ _ _ _ _
          · exact absurd hd1 c23
    · have hd : isD S d := by rcases hv.2.2.2.2 with q | q; exact absurd q hd1; exact q
      refine G_il1 hC dX10_drawn_0 ?_
      refine G_iconst hC dX10_drawn_1 ?_
      refine G_sipush hC dX10_drawn_2 (by decide) ?_
      refine G_callSI hC (c_in1 (by unfold i32r; omega) (by unfold i32r; omega) (by unfold i32r; omega) ⟨by omega, by omega⟩) ms_X10_119 (by decide) rfl (by decide) dX10_drawn_5 rfl (Nat.le_of_ble_eq_true rfl) rfl (fun z5 M5 P5 h5 => ?_)
      obtain ⟨rfl, rfl, rfl⟩ := h5
      refine G_if_eq (tgt := 34) hC dX10_drawn_8 (by decide) (by omega) (fun c8 => ?_) (fun c8 => ?_)
      · exact absurd c8 (by omega)
      · refine G_il2 hC dX10_drawn_11 ?_
        refine G_iconst hC dX10_drawn_12 ?_
        refine G_bipush hC dX10_drawn_13 (by decide) ?_
        refine G_callSI hC (c_in1 (by unfold i32r; omega) (by unfold i32r; omega) (by unfold i32r; omega) ⟨by omega, by omega⟩) ms_X10_119 (by decide) rfl (by decide) dX10_drawn_15 rfl (Nat.le_of_ble_eq_true rfl) rfl (fun z15 M15 P15 h15 => ?_)
        obtain ⟨rfl, rfl, rfl⟩ := h15
        refine G_if_eq (tgt := 34) hC dX10_drawn_18 (by decide) (by omega) (fun c18 => ?_) (fun c18 => ?_)
        · exact absurd c18 (by omega)
        · refine G_il3 hC dX10_drawn_21 ?_
          refine G_iconst hC dX10_drawn_22 ?_
          refine G_icmp_eq (tgt := 36) hC dX10_drawn_23 (by decide) (by omega) (by omega) (fun c23 => ?_) (fun c23 => ?_)
          · exact absurd c23 hd1
          · refine G_al0 hC dX10_drawn_26 ?_
            refine G_il3 hC dX10_drawn_27 ?_
            refine G_callVI hC (c_X10_isDish1 hS hI (by unfold i32r; omega) hd) mv_X10_195 (by first | assumption | rfl) (by omega) (by decide) rfl (by decide) dX10_drawn_28 rfl (Nat.le_of_ble_eq_true rfl) rfl (fun z28 M28 P28 h28 => ?_)
            obtain ⟨rfl, rfl, rfl⟩ := h28
            refine G_if_ne (tgt := 36) hC dX10_drawn_31 (by decide) (by omega) (fun c31 => ?_) (fun c31 => ?_)
            · exact h36 _ _ _ _ _ _ _
            · exact absurd c31 (by omega)
  · by_cases hz : 0 ≤ z ∧ z ≤ 9999
    · by_cases hn : 1 ≤ n ∧ n ≤ 60
      · have hd : ¬ isD S d := fun q => hv ⟨hz.1, hz.2, hn.1, hn.2, Or.inr q⟩
        have hd1 : ¬ d = -1 := fun q => hv ⟨hz.1, hz.2, hn.1, hn.2, Or.inl q⟩
        refine G_il1 hC dX10_drawn_0 ?_
        refine G_iconst hC dX10_drawn_1 ?_
        refine G_sipush hC dX10_drawn_2 (by decide) ?_
        refine G_callSI hC (c_in1 (by unfold i32r; omega) (by unfold i32r; omega) (by unfold i32r; omega) ⟨by omega, by omega⟩) ms_X10_119 (by decide) rfl (by decide) dX10_drawn_5 rfl (Nat.le_of_ble_eq_true rfl) rfl (fun z5 M5 P5 h5 => ?_)
        obtain ⟨rfl, rfl, rfl⟩ := h5
        refine G_if_eq (tgt := 34) hC dX10_drawn_8 (by decide) (by omega) (fun c8 => ?_) (fun c8 => ?_)
        · exact absurd c8 (by omega)
        · refine G_il2 hC dX10_drawn_11 ?_
          refine G_iconst hC dX10_drawn_12 ?_
          refine G_bipush hC dX10_drawn_13 (by decide) ?_
          refine G_callSI hC (c_in1 (by unfold i32r; omega) (by unfold i32r; omega) (by unfold i32r; omega) ⟨by omega, by omega⟩) ms_X10_119 (by decide) rfl (by decide) dX10_drawn_15 rfl (Nat.le_of_ble_eq_true rfl) rfl (fun z15 M15 P15 h15 => ?_)
          obtain ⟨rfl, rfl, rfl⟩ := h15
          refine G_if_eq (tgt := 34) hC dX10_drawn_18 (by decide) (by omega) (fun c18 => ?_) (fun c18 => ?_)
          · exact absurd c18 (by omega)
          · refine G_il3 hC dX10_drawn_21 ?_
            refine G_iconst hC dX10_drawn_22 ?_
            refine G_icmp_eq (tgt := 36) hC dX10_drawn_23 (by decide) (by omega) (by omega) (fun c23 => ?_) (fun c23 => ?_)
            · exact absurd c23 hd1
            · refine G_al0 hC dX10_drawn_26 ?_
              refine G_il3 hC dX10_drawn_27 ?_
              refine G_callVI hC (c_X10_isDish0 hS hI (by unfold i32r; omega) hd) mv_X10_195 (by first | assumption | rfl) (by omega) (by decide) rfl (by decide) dX10_drawn_28 rfl (Nat.le_of_ble_eq_true rfl) rfl (fun z28 M28 P28 h28 => ?_)
              obtain ⟨rfl, rfl, rfl⟩ := h28
              refine G_if_ne (tgt := 36) hC dX10_drawn_31 (by decide) (by omega) (fun c31 => ?_) (fun c31 => ?_)
              · exact absurd rfl c31
              · refine G_iconst hC dX10_drawn_34 ?_
                exact G_iret hC hQ dX10_drawn_35 ⟨_, rfl, rfl, by unfold drawnS; rw [if_neg hv], hI, eqx.refl⟩
      · skip
        refine G_il1 hC dX10_drawn_0 ?_
        refine G_iconst hC dX10_drawn_1 ?_
        refine G_sipush hC dX10_drawn_2 (by decide) ?_
        refine G_callSI hC (c_in1 (by unfold i32r; omega) (by unfold i32r; omega) (by unfold i32r; omega) ⟨by omega, by omega⟩) ms_X10_119 (by decide) rfl (by decide) dX10_drawn_5 rfl (Nat.le_of_ble_eq_true rfl) rfl (fun z5 M5 P5 h5 => ?_)
        obtain ⟨rfl, rfl, rfl⟩ := h5
        refine G_if_eq (tgt := 34) hC dX10_drawn_8 (by decide) (by omega) (fun c8 => ?_) (fun c8 => ?_)
        · exact absurd c8 (by omega)
        · refine G_il2 hC dX10_drawn_11 ?_
          refine G_iconst hC dX10_drawn_12 ?_
          refine G_bipush hC dX10_drawn_13 (by decide) ?_
          refine G_callSI hC (c_in0 (by unfold i32r; omega) (by unfold i32r; omega) (by unfold i32r; omega) (by omega)) ms_X10_119 (by decide) rfl (by decide) dX10_drawn_15 rfl (Nat.le_of_ble_eq_true rfl) rfl (fun z15 M15 P15 h15 => ?_)
          obtain ⟨rfl, rfl, rfl⟩ := h15
          refine G_if_eq (tgt := 34) hC dX10_drawn_18 (by decide) (by omega) (fun c18 => ?_) (fun c18 => ?_)
          · refine G_iconst hC dX10_drawn_34 ?_
            exact G_iret hC hQ dX10_drawn_35 ⟨_, rfl, rfl, by unfold drawnS; rw [if_neg hv], hI, eqx.refl⟩
          · exact absurd rfl c18
    · skip
      refine G_il1 hC dX10_drawn_0 ?_
      refine G_iconst hC dX10_drawn_1 ?_
      refine G_sipush hC dX10_drawn_2 (by decide) ?_
      refine G_callSI hC (c_in0 (by unfold i32r; omega) (by unfold i32r; omega) (by unfold i32r; omega) (by omega)) ms_X10_119 (by decide) rfl (by decide) dX10_drawn_5 rfl (Nat.le_of_ble_eq_true rfl) rfl (fun z5 M5 P5 h5 => ?_)
      obtain ⟨rfl, rfl, rfl⟩ := h5
      refine G_if_eq (tgt := 34) hC dX10_drawn_8 (by decide) (by omega) (fun c8 => ?_) (fun c8 => ?_)
      · refine G_iconst hC dX10_drawn_34 ?_
        exact G_iret hC hQ dX10_drawn_35 ⟨_, rfl, rfl, by unfold drawnS; rw [if_neg hv], hI, eqx.refl⟩
      · exact absurd rfl c8
