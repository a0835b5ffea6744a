/-! the reference asks -/
def TOk (T : TB) : Prop := 2 ≤ tn T ∧ tn T ≤ 6 ∧ tr T ≤ 1 ∧ ∀ g, g < tn T → tk T g ≤ 3 ∧ ∀ d, d < 6 → tw T g d ≤ 9
def SkR (M : Mem) (T : TB) (W : Nat → Nat) : Prop := (M 45 0 = (tn T : Int) ∧ M 45 2 = (tr T : Int)) ∧ TOk T ∧ ∀ g, g < tn T → M 64 g = (tk T g : Int) ∧ M 65 g = (W g : Int) ∧ ∀ d, d < 6 → M 66 (6 * g + d) = (tw T g d : Int)
def SpR (M : Mem) (n : Nat) (f : Nat → Nat) : Prop := ∀ g, g < n → M 63 g = nv (f g)
def lieN (n : Nat) (f : Nat → Nat) : Prop := ∀ g, g < n → f g < 6 ∨ f g = 7
theorem SkR_x {M M' : Mem} {T : TB} {W : Nat → Nat} (h : SkR M T W) (e45 : ∀ b, b ≤ 4 → M' 45 b = M 45 b) (e : ∀ a, 64 ≤ a → a ≤ 66 → ∀ b, M' a b = M a b) : SkR M' T W := by
  obtain ⟨⟨h1, h2⟩, h3, h4⟩ := h
  exact ⟨⟨by rw [e45 0 (by omega)]; exact h1, by rw [e45 2 (by omega)]; exact h2⟩, h3, fun g hg => by
    rw [e 64 (by omega) (by omega), e 65 (by omega) (by omega)]
    exact ⟨(h4 g hg).1, (h4 g hg).2.1, fun d hd => by rw [e 66 (by omega) (by omega)]; exact (h4 g hg).2.2 d hd⟩⟩
theorem SpR_up {M : Mem} {n i d : Nat} {f : Nat → Nat} {v : Int} (h : SpR M n f) (hv : v = nv d) : SpR (upM M 63 i v) n (ud f i d) := fun g hg => by
  unfold ud
  by_cases q : g = i
  · rw [q, upM_self, if_pos rfl]; exact hv
  · rw [upM_nej q, if_neg q]; exact h g hg
def siI (M M1 : Mem) (g e : Nat) : Prop := (∀ b, b < g → M1 63 b = M 50 b ∧ M1 64 b = M 46 b ∧ M1 65 b = M 47 b) ∧ (∀ b, b < e → M1 66 b = M 48 b) ∧ ∀ a, ¬ (63 ≤ a ∧ a ≤ 66) → ∀ b, M1 a b = M a b
theorem siI_g {M M1 : Mem} {g e : Nat} (h : siI M M1 g e) : siI M (upM (upM (upM M1 63 g (M 50 g)) 64 g (M 46 g)) 65 g (M 47 g)) (g + 1) e := by
  obtain ⟨h1, h2, h3⟩ := h
  refine ⟨fun b hb => ?_, fun b hb => by rw [upM_ne (by omega), upM_ne (by omega), upM_ne (by omega)]; exact h2 b hb, fun a ha b => by rw [upM_ne (by omega), upM_ne (by omega), upM_ne (by omega)]; exact h3 a ha b⟩
  by_cases q : b = g
  · subst q
    refine ⟨by simp [upM], by simp [upM], by simp [upM]⟩
  · obtain ⟨c1, c2, c3⟩ := h1 b (by omega)
    refine ⟨by simp [upM, q, c1], by simp [upM, q, c2], by simp [upM, q, c3]⟩
theorem siI_d {M M1 : Mem} {g e : Nat} (h : siI M M1 g e) : siI M (upM M1 66 e (M 48 e)) g (e + 1) := by
  obtain ⟨h1, h2, h3⟩ := h
  refine ⟨fun b hb => by rw [upM_ne (by omega), upM_ne (by omega), upM_ne (by omega)]; exact h1 b hb, fun b hb => ?_, fun a ha b => by rw [upM_ne (by omega)]; exact h3 a ha b⟩
  by_cases q : b = e
  · subst q; rw [upM_self]
  · rw [upM_nej q]; exact h2 b (by omega)
def siQ (M : Mem) (P : PMem) (n : Nat) : Mem → PMem → Prop := fun M' P' => P = P' ∧ siI M M' n (6 * n)
set_option maxHeartbeats 4000000 in
set_option maxRecDepth 100000 in
theorem c_X10_sits {l : Launch} {n : Nat} {M : Mem} {P : PMem} (hGr : GrM P) (hn : M 45 0 = (n : Int)) (hn6 : n ≤ 6) : CtV l yX10_sits cX10_sits 3 none 0 0 77 [vR 45] M P (siQ M P n) := by
  refine Ct_of (own := RX10) (L := [vR 45, vX 1, vX 1]) (by decide) rfl rfl (Nat.le_of_ble_eq_true rfl) (fun X Y hl hC hQ => ?_)
  have hlD : ∀ (g : Nat), g < n → (∀ (gv : Int) (M1 : Mem) (x2 : AV), gv = (g : Int) + 1 → siI M M1 (g + 1) (6 * (g + 1)) → G X Y 2 [vR 45, vI gv, x2] [] M1 P) → ∀ (c d : Nat) (dv : Int) (M1 : Mem), d + c = 6 → dv = (d : Int) → siI M M1 (g + 1) (6 * g + d) → G X Y 48 [vR 45, vI g, vI dv] [] M1 P := by
    intro g hg hnext c
    induction c with
    | zero =>
      intro d dv M1 hd e1 hL
      subst e1
      have : d = 6 := by omega
      subst this
      refine G_il2 hC dX10_sits_48 ?_
      refine G_bipush hC dX10_sits_49 (by decide) ?_
      refine G_icmp_ge (tgt := 82) hC dX10_sits_51 (by decide) (by omega) (by omega) (fun c51 => ?_) (fun c51 => ?_)
      · refine G_inc1 hC dX10_sits_82 rfl ?_
        refine G_goto (tgt := 2) hC dX10_sits_85 (by decide) ?_
        exact hnext _ _ _ rfl hL
      · exact absurd c51 (by omega)
    | succ c ih =>
      intro d dv M1 hd e1 hL
      subst e1
      refine G_il2 hC dX10_sits_48 ?_
      refine G_bipush hC dX10_sits_49 (by decide) ?_
      refine G_icmp_ge (tgt := 82) hC dX10_sits_51 (by decide) (by omega) (by omega) (fun c51 => ?_) (fun c51 => ?_)
      · exact absurd c51 (by omega)
      · refine G_al0 hC dX10_sits_54 ?_
        refine G_getR hC fl_X10_70 (by first | assumption | rfl) (by omega) (by first | assumption | exact hGr _ _ rfl) dX10_sits_55 ?_
        refine G_bipush hC dX10_sits_58 (by decide) ?_
        refine G_il1 hC dX10_sits_60 ?_
        refine G_imul hC dX10_sits_61 ?_
        refine G_il2 hC dX10_sits_62 ?_
        refine G_iadd hC dX10_sits_63 ?_
        refine G_al0 hC dX10_sits_64 ?_
        refine G_getR hC fl_X10_16 (by first | assumption | rfl) (by omega) (by first | assumption | exact hGr _ _ rfl) dX10_sits_65 ?_
        refine G_bipush hC dX10_sits_68 (by decide) ?_
        refine G_il1 hC dX10_sits_70 ?_
        refine G_imul hC dX10_sits_71 ?_
        refine G_il2 hC dX10_sits_72 ?_
        refine G_iadd hC dX10_sits_73 ?_
        refine G_ialoadN (n := 6 * g + d) hC (by first | assumption | rfl) (by omega) (by omega) (by omega) dX10_sits_74 ?_
        refine G_iastoreN (n := 6 * g + d) hC (by first | assumption | rfl) (by omega) (by omega) (by omega) dX10_sits_75 ?_
        refine G_inc2 hC dX10_sits_76 rfl ?_
        refine G_goto (tgt := 48) hC dX10_sits_79 (by decide) ?_
        rw [hL.2.2 48 (by omega)]
        exact ih (d + 1) _ _ (by omega) (by omega) (siI_d hL)
  have hlG : ∀ (c g : Nat) (gv : Int) (M1 : Mem) (x2 : AV), g + c = n → gv = (g : Int) → siI M M1 g (6 * g) → G X Y 2 [vR 45, vI gv, x2] [] M1 P := by
    intro c
    induction c with
    | zero =>
      intro g gv M1 x2 hg e1 hL
      subst e1
      have : g = n := by omega
      subst this
      have h0 : M1 45 0 = (g : Int) := by rw [hL.2.2 45 (by omega)]; exact hn
      refine G_il1 hC dX10_sits_2 ?_
      refine G_al0 hC dX10_sits_3 ?_
      refine G_getI hC fl_X10_116 (by first | assumption | rfl) (by omega) dX10_sits_4 ?_
      rw [h0]
      refine G_icmp_ge (tgt := 88) hC dX10_sits_7 (by decide) (by omega) (by omega) (fun c7 => ?_) (fun c7 => ?_)
      · exact G_vret hC hQ dX10_sits_88 ⟨rfl, rfl, hL⟩
      · exact absurd c7 (by omega)
    | succ c ih =>
      intro g gv M1 x2 hg e1 hL
      subst e1
      have h0 : M1 45 0 = (n : Int) := by rw [hL.2.2 45 (by omega)]; exact hn
      have x50 := hL.2.2 50 (by omega) g
      have x46 := hL.2.2 46 (by omega) g
      have x47 := hL.2.2 47 (by omega) g
      refine G_il1 hC dX10_sits_2 ?_
      refine G_al0 hC dX10_sits_3 ?_
      refine G_getI hC fl_X10_116 (by first | assumption | rfl) (by omega) dX10_sits_4 ?_
      rw [h0]
      refine G_icmp_ge (tgt := 88) hC dX10_sits_7 (by decide) (by omega) (by omega) (fun c7 => ?_) (fun c7 => ?_)
      · exact absurd c7 (by omega)
      · refine G_al0 hC dX10_sits_10 ?_
        refine G_getR hC fl_X10_61 (by first | assumption | rfl) (by omega) (by first | assumption | exact hGr _ _ rfl) dX10_sits_11 ?_
        refine G_il1 hC dX10_sits_14 ?_
        refine G_al0 hC dX10_sits_15 ?_
        refine G_getR hC fl_X10_22 (by first | assumption | rfl) (by omega) (by first | assumption | exact hGr _ _ rfl) dX10_sits_16 ?_
        refine G_il1 hC dX10_sits_19 ?_
        refine G_ialoadN (n := g) hC (by first | assumption | rfl) (by omega) (by omega) (by omega) dX10_sits_20 ?_
        rw [x50]
        refine G_iastoreN (n := g) hC (by first | assumption | rfl) (by omega) (by omega) (by omega) dX10_sits_21 ?_
        refine G_al0 hC dX10_sits_22 ?_
        refine G_getR hC fl_X10_64 (by first | assumption | rfl) (by omega) (by first | assumption | exact hGr _ _ rfl) dX10_sits_23 ?_
        refine G_il1 hC dX10_sits_26 ?_
        refine G_al0 hC dX10_sits_27 ?_
        refine G_getR hC fl_X10_7 (by first | assumption | rfl) (by omega) (by first | assumption | exact hGr _ _ rfl) dX10_sits_28 ?_
        refine G_il1 hC dX10_sits_31 ?_
        refine G_ialoadN (n := g) hC (by first | assumption | rfl) (by omega) (by omega) (by omega) dX10_sits_32 ?_
        rw [upM_ne (by omega), x46]
        refine G_iastoreN (n := g) hC (by first | assumption | rfl) (by omega) (by omega) (by omega) dX10_sits_33 ?_
        refine G_al0 hC dX10_sits_34 ?_
        refine G_getR hC fl_X10_67 (by first | assumption | rfl) (by omega) (by first | assumption | exact hGr _ _ rfl) dX10_sits_35 ?_
        refine G_il1 hC dX10_sits_38 ?_
        refine G_al0 hC dX10_sits_39 ?_
        refine G_getR hC fl_X10_13 (by first | assumption | rfl) (by omega) (by first | assumption | exact hGr _ _ rfl) dX10_sits_40 ?_
        refine G_il1 hC dX10_sits_43 ?_
        refine G_ialoadN (n := g) hC (by first | assumption | rfl) (by omega) (by omega) (by omega) dX10_sits_44 ?_
        rw [upM_ne (by omega), upM_ne (by omega), x47]
        refine G_iastoreN (n := g) hC (by first | assumption | rfl) (by omega) (by omega) (by omega) dX10_sits_45 ?_
        refine G_iconst hC dX10_sits_46 ?_
        refine G_is2 hC dX10_sits_47 rfl ?_
        exact hlD g (by omega) (fun gv M3 x2 e1 hL3 => ih (g + 1) _ _ _ (by omega) e1 hL3) 6 0 _ _ (by omega) rfl (siI_g hL)
  refine G_iconst hC dX10_sits_0 ?_
  refine G_is1 hC dX10_sits_1 rfl ?_
  exact hlG n 0 _ _ _ (by omega) rfl ⟨fun b hb => by omega, fun b hb => by omega, fun _ _ _ => rfl⟩
theorem TOK_Ok {c : Nat} {S : AS} (hS : SOK c S) (hK : TOK S) : TOk (sT S) := by
  obtain ⟨-, ⟨-, -, -, -, s6, s7, s8⟩, -⟩ := hS
  exact ⟨s6, s7, s8, fun g hg => hK g (by omega)⟩
theorem si_R {c : Nat} {M M' : Mem} {P : PMem} {S : AS} (hS : SOK c S) (hK : TOK S) (hI : MIv c M P S) (h : siI M M' (tn (sT S)) (6 * tn (sT S))) : SkR M' (sT S) (sW S) ∧ SpR M' (tn (sT S)) (sNow S).1 := by
  obtain ⟨hGr, ⟨⟨g0, g1, g2, g3, g4⟩, g5⟩, ⟨g6, g7⟩, -⟩ := hI
  obtain ⟨h1, h2, h3⟩ := h
  refine ⟨⟨⟨by rw [h3 45 (by omega)]; exact g0, by rw [h3 45 (by omega)]; exact g2⟩, TOK_Ok hS hK, fun g hg => ?_⟩, fun g hg => by rw [(h1 g hg).1]; exact (g6 g hg).1⟩
  obtain ⟨c1, c2, c3⟩ := h1 g hg
  rw [c2, c3]
  exact ⟨(g5 g hg).1, (g5 g hg).2.1, fun d hd => by rw [h2 _ (by omega)]; exact (g5 g hg).2.2.2 d hd⟩
set_option maxHeartbeats 4000000 in
set_option maxRecDepth 100000 in
theorem c_X10_likes {l : Launch} {T : TB} {W : Nat → Nat} {g d : Nat} {M : Mem} {P : PMem} (hGr : GrM P) (hk : SkR M T W) (hg : g < tn T) (hd : d < 6 ∨ d = 7) : CtI l yX10_likes cX10_likes 3 (some .int) 0 0 77 [vR 45, vI g, vI (nv d)] M P (pI (wo T g d) M P) := by
  refine Ct_of (own := RX10) (L := [vR 45, vI g, vI (nv d)]) (by decide) rfl rfl (Nat.le_of_ble_eq_true rfl) (fun X Y hl hC hQ => ?_)
  obtain ⟨⟨k0, k2⟩, ⟨o2, o6, or1, oT⟩, kg⟩ := id hk
  by_cases h7 : d = 7
  · have hv : nv d = -1 := by unfold nv; rw [if_pos h7]
    have hw : wo T g d = 0 := by unfold wo; rw [if_neg (by omega)]
    refine G_il2 hC dX10_likes_0 ?_
    rw [hv]
    refine G_iconst hC dX10_likes_1 ?_
    refine G_icmp_ne (tgt := 9) hC dX10_likes_2 (by decide) (by omega) (by omega) (fun c2 => ?_) (fun c2 => ?_)
    · exact absurd rfl c2
    · refine G_iconst hC dX10_likes_5 ?_
      refine G_goto (tgt := 20) hC dX10_likes_6 (by decide) ?_
      exact G_iret hC hQ dX10_likes_20 ⟨_, rfl, by rw [hw]; rfl, rfl, rfl⟩
  · have hv : nv d = (d : Int) := by unfold nv; rw [if_neg h7]
    have hw : wo T g d = tw T g d := by unfold wo; rw [if_pos (by omega)]
    refine G_il2 hC dX10_likes_0 ?_
    rw [hv]
    refine G_iconst hC dX10_likes_1 ?_
    refine G_icmp_ne (tgt := 9) hC dX10_likes_2 (by decide) (by omega) (by omega) (fun c2 => ?_) (fun c2 => ?_)
    · refine G_al0 hC dX10_likes_9 ?_
      refine G_getR hC fl_X10_70 (by first | assumption | rfl) (by omega) (by first | assumption | exact hGr _ _ rfl) dX10_likes_10 ?_
      refine G_bipush hC dX10_likes_13 (by decide) ?_
      refine G_il1 hC dX10_likes_15 ?_
      refine G_imul hC dX10_likes_16 ?_
      refine G_il2 hC dX10_likes_17 ?_
      refine G_iadd hC dX10_likes_18 ?_
      refine G_ialoadN (n := 6 * g + d) hC (by first | assumption | rfl) (by omega) (by omega) (by omega) dX10_likes_19 ?_
      rw [(kg g hg).2.2 d (by omega)]
      exact G_iret hC hQ dX10_likes_20 ⟨_, rfl, by rw [hw], rfl, rfl⟩
    · exact absurd c2 (by omega)
theorem nv_7 {d : Nat} : nv d = -1 ↔ d = 7 := by
  unfold nv
  split <;> omega
theorem wo_le9 {T : TB} {g d : Nat} (h : TOk T) (hg : g < tn T) : wo T g d ≤ 9 := by
  unfold wo
  split
  · exact ((h.2.2.2 g hg).2 d (by assumption))
  · omega
set_option maxHeartbeats 4000000 in
set_option maxRecDepth 100000 in
theorem c_X10_mayAsk {l : Launch} {T : TB} {W f : Nat → Nat} {i j : Nat} {M : Mem} {P : PMem} (hGr : GrM P) (hk : SkR M T W) (hs : SpR M (tn T) f) (hf : lieN (tn T) f) (hi : i < tn T) (hj : j < tn T) : CtI l yX10_mayAsk cX10_mayAsk 3 (some .boolean) 0 0 77 [vR 45, vI i, vI j] M P (pI (canI T f i j) M P) := by
  refine Ct_of (own := RX10) (L := [vR 45, vI i, vI j]) (by decide) rfl rfl (Nat.le_of_ble_eq_true rfl) (fun X Y hl hC hQ => ?_)
  obtain ⟨⟨k0, k2⟩, ⟨o2, o6, or1, oT⟩, kg⟩ := id hk
  have hki := (oT j hj).1
  have r1 := nv_r (d := f i) (by rcases hf i hi with q | q <;> omega)
  have r2 := nv_r (d := f j) (by rcases hf j hj with q | q <;> omega)
  refine G_il1 hC dX10_mayAsk_0 ?_
  refine G_il2 hC dX10_mayAsk_1 ?_
  refine G_icmp_eq (tgt := 39) hC dX10_mayAsk_2 (by decide) (by omega) (by omega) (fun c2 => ?_) (fun c2 => ?_)
  · refine G_iconst hC dX10_mayAsk_39 ?_
    exact G_zret hC hQ dX10_mayAsk_40 (by omega) ⟨_, rfl, by
  first
    | (rw [canI_1 ⟨by omega, hi, hj, by omega, fun e => c12 (nv_7.mpr e), fun e => c22 (nv_7.mpr e)⟩]; done)
    | (rw [canI_0 (fun z => z.1 (by omega))]; done)
    | (rw [canI_0 (fun z => z.2.2.2.2.1 (nv_7.mp c12))]; done)
    | (rw [canI_0 (fun z => z.2.2.2.2.2 (nv_7.mp c22))]; done)
    | (rw [canI_0 (fun z => z.2.2.2.1 (by omega))]; done), rfl, rfl⟩
  · refine G_al0 hC dX10_mayAsk_5 ?_
    refine G_getR hC fl_X10_61 (by first | assumption | rfl) (by omega) (by first | assumption | exact hGr _ _ rfl) dX10_mayAsk_6 ?_
    refine G_il1 hC dX10_mayAsk_9 ?_
    refine G_ialoadN (n := i) hC (by first | assumption | rfl) (by omega) (by omega) (by omega) dX10_mayAsk_10 ?_
    rw [hs i hi]
    refine G_iconst hC dX10_mayAsk_11 ?_
    refine G_icmp_eq (tgt := 39) hC dX10_mayAsk_12 (by decide) (by omega) (by omega) (fun c12 => ?_) (fun c12 => ?_)
    · refine G_iconst hC dX10_mayAsk_39 ?_
      exact G_zret hC hQ dX10_mayAsk_40 (by omega) ⟨_, rfl, by
  first
    | (rw [canI_1 ⟨by omega, hi, hj, by omega, fun e => c12 (nv_7.mpr e), fun e => c22 (nv_7.mpr e)⟩]; done)
    | (rw [canI_0 (fun z => z.1 (by omega))]; done)
    | (rw [canI_0 (fun z => z.2.2.2.2.1 (nv_7.mp c12))]; done)
    | (rw [canI_0 (fun z => z.2.2.2.2.2 (nv_7.mp c22))]; done)
    | (rw [canI_0 (fun z => z.2.2.2.1 (by omega))]; done), rfl, rfl⟩
    · refine G_al0 hC dX10_mayAsk_15 ?_
      refine G_getR hC fl_X10_61 (by first | assumption | rfl) (by omega) (by first | assumption | exact hGr _ _ rfl) dX10_mayAsk_16 ?_
      refine G_il2 hC dX10_mayAsk_19 ?_
      refine G_ialoadN (n := j) hC (by first | assumption | rfl) (by omega) (by omega) (by omega) dX10_mayAsk_20 ?_
      rw [hs j hj]
      refine G_iconst hC dX10_mayAsk_21 ?_
      refine G_icmp_eq (tgt := 39) hC dX10_mayAsk_22 (by decide) (by omega) (by omega) (fun c22 => ?_) (fun c22 => ?_)
      · refine G_iconst hC dX10_mayAsk_39 ?_
        exact G_zret hC hQ dX10_mayAsk_40 (by omega) ⟨_, rfl, by
  first
    | (rw [canI_1 ⟨by omega, hi, hj, by omega, fun e => c12 (nv_7.mpr e), fun e => c22 (nv_7.mpr e)⟩]; done)
    | (rw [canI_0 (fun z => z.1 (by omega))]; done)
    | (rw [canI_0 (fun z => z.2.2.2.2.1 (nv_7.mp c12))]; done)
    | (rw [canI_0 (fun z => z.2.2.2.2.2 (nv_7.mp c22))]; done)
    | (rw [canI_0 (fun z => z.2.2.2.1 (by omega))]; done), rfl, rfl⟩
      · refine G_al0 hC dX10_mayAsk_25 ?_
        refine G_getR hC fl_X10_64 (by first | assumption | rfl) (by omega) (by first | assumption | exact hGr _ _ rfl) dX10_mayAsk_26 ?_
        refine G_il2 hC dX10_mayAsk_29 ?_
        refine G_ialoadN (n := j) hC (by first | assumption | rfl) (by omega) (by omega) (by omega) dX10_mayAsk_30 ?_
        rw [(kg j hj).1]
        refine G_iconst hC dX10_mayAsk_31 ?_
        refine G_icmp_eq (tgt := 39) hC dX10_mayAsk_32 (by decide) (by omega) (by omega) (fun c32 => ?_) (fun c32 => ?_)
        · refine G_iconst hC dX10_mayAsk_39 ?_
          exact G_zret hC hQ dX10_mayAsk_40 (by omega) ⟨_, rfl, by
  first
    | (rw [canI_1 ⟨by omega, hi, hj, by omega, fun e => c12 (nv_7.mpr e), fun e => c22 (nv_7.mpr e)⟩]; done)
    | (rw [canI_0 (fun z => z.1 (by omega))]; done)
    | (rw [canI_0 (fun z => z.2.2.2.2.1 (nv_7.mp c12))]; done)
    | (rw [canI_0 (fun z => z.2.2.2.2.2 (nv_7.mp c22))]; done)
    | (rw [canI_0 (fun z => z.2.2.2.1 (by omega))]; done), rfl, rfl⟩
        · refine G_iconst hC dX10_mayAsk_35 ?_
          refine G_goto (tgt := 40) hC dX10_mayAsk_36 (by decide) ?_
          exact G_zret hC hQ dX10_mayAsk_40 (by omega) ⟨_, rfl, by
  first
    | (rw [canI_1 ⟨by omega, hi, hj, by omega, fun e => c12 (nv_7.mpr e), fun e => c22 (nv_7.mpr e)⟩]; done)
    | (rw [canI_0 (fun z => z.1 (by omega))]; done)
    | (rw [canI_0 (fun z => z.2.2.2.2.1 (nv_7.mp c12))]; done)
    | (rw [canI_0 (fun z => z.2.2.2.2.2 (nv_7.mp c22))]; done)
    | (rw [canI_0 (fun z => z.2.2.2.1 (by omega))]; done), rfl, rfl⟩
def goF (T : TB) : Nat → (Nat → Nat) → Nat → Nat → Nat → (Nat → Nat) × Nat
  | 0, f, d, _, _ => (f, d)
  | k + 1, f, d, s, u => if tk T (nxt T s u) = 1 ∧ wo T (nxt T s u) (f (nxt T s u)) < wo T (nxt T s u) d then goF T k (ud f (nxt T s u) d) (f (nxt T s u)) (nxt T s u) u else goF T k f d (nxt T s u) u
theorem nxt_mod {T : TB} {s u : Nat} {sv : Int} (h2 : 2 ≤ tn T) (hs : s < tn T) (hu : sv = 2 * (u : Int) - 1 ∧ u ≤ 1) : ((s : Int) + sv + tn T) % (tn T : Int) = (nxt T s u : Int) := by
  have hn := nxt_lt (T := T) (u := u) h2 hs
  unfold nxt at hn ⊢
  by_cases hu1 : u = 1
  · rw [if_pos hu1]
    split
    · rw [show (s : Int) + sv + tn T = ((s + 1 : Nat) : Int) + tn T by omega, Int.add_emod_right, Int.emod_eq_of_lt (by omega) (by omega)]
    · rw [show (s : Int) + sv + tn T = ((0 : Nat) : Int) + tn T + tn T by omega, Int.add_emod_right, Int.add_emod_right]; rfl
  · rw [if_neg hu1]
    split
    · rw [show (s : Int) + sv + tn T = ((tn T - 1 : Nat) : Int) by omega, Int.emod_eq_of_lt (by omega) (by omega)]
    · rw [show (s : Int) + sv + tn T = ((s - 1 : Nat) : Int) + tn T by omega, Int.add_emod_right, Int.emod_eq_of_lt (by omega) (by omega)]
def s63 : Nat → Prop := fun a => a = 63
theorem s63_up {M : Mem} {j : Nat} {v : Int} : eqx s63 M (upM M 63 j v) := eqx_up (S := s63) (k := 63) rfl
def goQ (M : Mem) (P : PMem) (T : TB) (y : (Nat → Nat) × Nat) : Int → Mem → PMem → Prop := fun r M' P' => P = P' ∧ r = nv y.2 ∧ SpR M' (tn T) y.1 ∧ eqx s63 M M'
theorem goF_lie {T : TB} {u : Nat} (h2 : 2 ≤ tn T) : ∀ k (f : Nat → Nat) (d s : Nat), s < tn T → lieN (tn T) f → (d < 6 ∨ d = 7) → lieN (tn T) (goF T k f d s u).1 ∧ ((goF T k f d s u).2 < 6 ∨ (goF T k f d s u).2 = 7)
  | 0, f, d, s, hs, hf, hd => ⟨hf, hd⟩
  | k + 1, f, d, s, hs, hf, hd => by
    have hn := nxt_lt (T := T) (u := u) h2 hs
    unfold goF
    split
    · refine goF_lie h2 k _ _ _ hn (fun g hg => ?_) (hf _ hn)
      unfold ud; split
      · exact hd
      · exact hf g hg
    · exact goF_lie h2 k _ _ _ hn hf hd
set_option maxHeartbeats 4000000 in
set_option maxRecDepth 100000 in
theorem c_X10_goes {l : Launch} {T : TB} {W f : Nat → Nat} {d s u m : Nat} {sv : Int} {M : Mem} {P : PMem} (hGr : GrM P) (hk : SkR M T W) (hS : SpR M (tn T) f) (hf : lieN (tn T) f) (hd : d < 6 ∨ d = 7) (hs : s < tn T) (hu : sv = 2 * (u : Int) - 1 ∧ u ≤ 1) (hm : m ≤ 10) : CtI l yX10_goes cX10_goes 9 (some .int) 1 22 77 [vR 45, vI (nv d), vI s, vI sv, vI m] M P (goQ M P T (goF T m f d s u)) := by
  refine Ct_of (own := RX10) (L := [vR 45, vI (nv d), vI s, vI sv, vI m, vX 1, vX 1, vX 1, vX 1]) (by decide) rfl rfl (Nat.le_of_ble_eq_true rfl) (fun X Y hl hC hQ => ?_)
  obtain ⟨⟨k0, k2⟩, ⟨o2, o6, or1, oT⟩, kg⟩ := id hk
  have hlp : ∀ (c k : Nat) (kv : Int) (f1 : Nat → Nat) (d1 s1 : Nat) (M1 : Mem) (x8 : AV), k + c = m → kv = (k : Int) → s1 < tn T → lieN (tn T) f1 → (d1 < 6 ∨ d1 = 7) → SpR M1 (tn T) f1 → eqx s63 M M1 → goF T c f1 d1 s1 u = goF T m f d s u → G X Y 9 [vR 45, vI (nv d), vI s, vI sv, vI m, vI (nv d1), vI s1, vI kv, x8] [] M1 P := by
    intro c
    induction c with
    | zero =>
      intro k kv f1 d1 s1 M1 x8 hk1 e1 hs1 hf1 hd1 hS1 hx he
      subst e1
      have he' : (f1, d1) = goF T m f d s u := he
      refine G_il7 hC dX10_goes_9 ?_
      refine G_il4 hC dX10_goes_11 ?_
      refine G_icmp_ge (tgt := 101) hC dX10_goes_13 (by decide) (by omega) (by omega) (fun c13 => ?_) (fun c13 => ?_)
      · refine G_il5 hC dX10_goes_101 ?_
        exact G_iret hC hQ dX10_goes_103 ⟨_, rfl, rfl, by rw [← he'], by rw [← he']; exact hS1, hx⟩
      · exact absurd c13 (by omega)
    | succ c ih =>
      intro k kv f1 d1 s1 M1 x8 hk1 e1 hs1 hf1 hd1 hS1 hx he
      subst e1
      have hn := nxt_lt (T := T) (u := u) o2 hs1
      have hk1' : SkR M1 T W := SkR_x hk (fun b hb => hx 45 (by unfold s63; omega) b) (fun a h1 h2 b => hx a (by unfold s63; omega) b)
      have y0 := hk1'.1.1
      have y64 := (hk1'.2.2 _ hn).1
      have hmod := nxt_mod o2 hs1 hu
      have r1 := nv_r (d := d1) (by omega)
      have r2 := nv_r (d := f1 (nxt T s1 u)) (by rcases hf1 _ hn with q | q <;> omega)
      have w1 := wo_le9 (d := d1) hk1'.2.1 hn
      have w2 := wo_le9 (d := f1 (nxt T s1 u)) hk1'.2.1 hn
      have t3 := (oT _ hn).1
      replace he : (if tk T (nxt T s1 u) = 1 ∧ wo T (nxt T s1 u) (f1 (nxt T s1 u)) < wo T (nxt T s1 u) d1 then goF T c (ud f1 (nxt T s1 u) d1) (f1 (nxt T s1 u)) (nxt T s1 u) u else goF T c f1 d1 (nxt T s1 u) u) = goF T m f d s u := he
      have hgo : ¬ (tk T (nxt T s1 u) = 1 ∧ wo T (nxt T s1 u) (f1 (nxt T s1 u)) < wo T (nxt T s1 u) d1) → G X Y 95 [vR 45, vI (nv d), vI s, vI sv, vI m, vI (nv d1), vI (nxt T s1 u), vI k, x8] [] M1 P := by
        intro hno
        rw [if_neg hno] at he
        refine G_inc7 hC dX10_goes_95 rfl ?_
        refine G_goto (tgt := 9) hC dX10_goes_98 (by decide) ?_
        exact ih (k + 1) _ f1 d1 _ M1 _ (by omega) (by omega) hn hf1 hd1 hS1 hx he
      refine G_il7 hC dX10_goes_9 ?_
      refine G_il4 hC dX10_goes_11 ?_
      refine G_icmp_ge (tgt := 101) hC dX10_goes_13 (by decide) (by omega) (by omega) (fun c13 => ?_) (fun c13 => ?_)
      · exact absurd c13 (by omega)
      · refine G_il6 hC dX10_goes_16 ?_
        refine G_il3 hC dX10_goes_18 ?_
        refine G_iadd hC dX10_goes_19 ?_
        refine G_al0 hC dX10_goes_20 ?_
        refine G_getI hC fl_X10_116 (by first | assumption | rfl) (by omega) dX10_goes_21 ?_
        rw [y0]
        refine G_iadd hC dX10_goes_24 ?_
        refine G_al0 hC dX10_goes_25 ?_
        refine G_getI hC fl_X10_116 (by first | assumption | rfl) (by omega) dX10_goes_26 ?_
        rw [y0]
        refine G_irem hC dX10_goes_29 (by omega) (by omega) ?_
        rw [hmod]
        refine G_is6 hC dX10_goes_30 rfl ?_
        refine G_il5 hC dX10_goes_32 ?_
        refine G_iconst hC dX10_goes_34 ?_
        refine G_icmp_eq (tgt := 95) hC dX10_goes_35 (by decide) (by omega) (by omega) (fun c35 => ?_) (fun c35 => ?_)
        · exact hgo (fun z => by
            have := nv_7.mp c35
            have : wo T (nxt T s1 u) d1 = 0 := by unfold wo; rw [if_neg (by omega)]
            omega)
        · refine G_al0 hC dX10_goes_38 ?_
          refine G_getR hC fl_X10_64 (by first | assumption | rfl) (by omega) (by first | assumption | exact hGr _ _ rfl) dX10_goes_39 ?_
          refine G_il6 hC dX10_goes_42 ?_
          refine G_ialoadN (n := nxt T s1 u) hC (by first | assumption | rfl) (by omega) (by omega) (by omega) dX10_goes_44 ?_
          rw [y64]
          refine G_iconst hC dX10_goes_45 ?_
          refine G_icmp_ne (tgt := 95) hC dX10_goes_46 (by decide) (by omega) (by omega) (fun c46 => ?_) (fun c46 => ?_)
          · exact hgo (fun z => by omega)
          · refine G_al0 hC dX10_goes_49 ?_
            refine G_il6 hC dX10_goes_50 ?_
            refine G_il5 hC dX10_goes_52 ?_
            refine G_callVI hC (c_X10_likes hGr hk1' hn hd1) mv_X10_209 (by first | assumption | rfl) (by omega) (by decide) rfl (by decide) dX10_goes_54 rfl (Nat.le_of_ble_eq_true rfl) rfl (fun z54 M54 P54 h54 => ?_)
            obtain ⟨rfl, rfl, rfl⟩ := h54
            refine G_al0 hC dX10_goes_57 ?_
            refine G_il6 hC dX10_goes_58 ?_
            refine G_al0 hC dX10_goes_60 ?_
            refine G_getR hC fl_X10_61 (by first | assumption | rfl) (by omega) (by first | assumption | exact hGr _ _ rfl) dX10_goes_61 ?_
            refine G_il6 hC dX10_goes_64 ?_
            refine G_ialoadN (n := nxt T s1 u) hC (by first | assumption | rfl) (by omega) (by omega) (by omega) dX10_goes_66 ?_
            rw [hS1 _ hn]
            refine G_callVI hC (c_X10_likes hGr hk1' hn (hf1 _ hn)) mv_X10_209 (by first | assumption | rfl) (by omega) (by decide) rfl (by decide) dX10_goes_67 rfl (Nat.le_of_ble_eq_true rfl) rfl (fun z67 M67 P67 h67 => ?_)
            obtain ⟨rfl, rfl, rfl⟩ := h67
            refine G_icmp_le (tgt := 95) hC dX10_goes_70 (by decide) (by omega) (by omega) (fun c70 => ?_) (fun c70 => ?_)
            · exact hgo (fun z => by omega)
            · refine G_al0 hC dX10_goes_73 ?_
              refine G_getR hC fl_X10_61 (by first | assumption | rfl) (by omega) (by first | assumption | exact hGr _ _ rfl) dX10_goes_74 ?_
              refine G_il6 hC dX10_goes_77 ?_
              refine G_ialoadN (n := nxt T s1 u) hC (by first | assumption | rfl) (by omega) (by omega) (by omega) dX10_goes_79 ?_
              rw [hS1 _ hn]
              refine G_is8 hC dX10_goes_80 rfl ?_
              refine G_al0 hC dX10_goes_82 ?_
              refine G_getR hC fl_X10_61 (by first | assumption | rfl) (by omega) (by first | assumption | exact hGr _ _ rfl) dX10_goes_83 ?_
              refine G_il6 hC dX10_goes_86 ?_
              refine G_il5 hC dX10_goes_88 ?_
              refine G_iastoreN (n := nxt T s1 u) hC (by first | assumption | rfl) (by omega) (by omega) (by omega) dX10_goes_90 ?_
              refine G_il8 hC dX10_goes_91 ?_
              refine G_is5 hC dX10_goes_93 rfl ?_
              refine G_inc7 hC dX10_goes_95 rfl ?_
              refine G_goto (tgt := 9) hC dX10_goes_98 (by decide) ?_
              rw [if_pos ⟨by omega, by omega⟩] at he
              exact ih (k + 1) _ (ud f1 (nxt T s1 u) d1) (f1 (nxt T s1 u)) _ _ _ (by omega) (by omega) hn (fun g hg => by
                unfold ud; split
                · exact hd1
                · exact hf1 g hg) (hf1 _ hn) (SpR_up hS1 rfl) (hx.trans s63_up) he
  refine G_il1 hC dX10_goes_0 ?_
  refine G_is5 hC dX10_goes_1 rfl ?_
  refine G_il2 hC dX10_goes_3 ?_
  refine G_is6 hC dX10_goes_4 rfl ?_
  refine G_iconst hC dX10_goes_6 ?_
  refine G_is7 hC dX10_goes_7 rfl ?_
  exact hlp m 0 _ f d s M _ (by omega) rfl hs hf hd hS eqx.refl rfl
def spQ (M : Mem) (P : PMem) (n : Nat) (f : Nat → Nat) : Mem → PMem → Prop := fun M' P' => P = P' ∧ SpR M' n f ∧ eqx s63 M M'
theorem chd_lieN {T : TB} {f : Nat → Nat} {s : Nat} (h2 : 2 ≤ tn T) (hs : s < tn T) (hf : lieN (tn T) f) : lieN (tn T) (chd T f s) := fun g hg => by
  have hn := nxt_lt (T := T) (u := 1) h2 hs
  unfold chd
  split
  · unfold sw ud
    split
    · exact hf s hs
    · split
      · exact hf _ hn
      · exact hf g hg
  · exact hf g hg
set_option maxHeartbeats 4000000 in
set_option maxRecDepth 100000 in
theorem c_X10_childChanges {l : Launch} {T : TB} {W f : Nat → Nat} {g : Nat} {M : Mem} {P : PMem} (hGr : GrM P) (hk : SkR M T W) (hS : SpR M (tn T) f) (hf : lieN (tn T) f) (hg : g < tn T) : CtV l yX10_childChanges cX10_childChanges 4 none 0 0 77 [vR 45, vI g] M P (spQ M P (tn T) (chd T f g)) := by
  refine Ct_of (own := RX10) (L := [vR 45, vI g, vX 1, vX 1]) (by decide) rfl rfl (Nat.le_of_ble_eq_true rfl) (fun X Y hl hC hQ => ?_)
  obtain ⟨⟨k0, k2⟩, ⟨o2, o6, or1, oT⟩, kg⟩ := id hk
  have hn := nxt_lt (T := T) (u := 1) o2 hg
  have r1 := nv_r (d := f g) (by rcases hf g hg with q | q <;> omega)
  have t3 := (oT g hg).1
  have hno : ¬ (tk T g = 3 ∧ f g ≠ 7 ∧ ¬ (tr T = 0 ∧ g + 1 = tn T)) → SpR M (tn T) (chd T f g) := fun z => by unfold chd; rw [if_neg z]; exact hS
  have hgo : ∀ (nx0 : Int) (x3 : AV), nx0 = (if tr T = 0 ∧ g + 1 = tn T then -1 else (nxt T g 1 : Int)) → G X Y 29 [vR 45, vI g, vI nx0, x3] [] M P := by
    intro nx0 x3 hnx
    by_cases hl : tr T = 0 ∧ g + 1 = tn T
    · rw [if_pos hl] at hnx
      subst hnx
      refine G_al0 hC dX10_childChanges_29 ?_
      refine G_getR hC fl_X10_64 (by first | assumption | rfl) (by omega) (by first | assumption | exact hGr _ _ rfl) dX10_childChanges_30 ?_
      refine G_il1 hC dX10_childChanges_33 ?_
      refine G_ialoadN (n := g) hC (by first | assumption | rfl) (by omega) (by omega) (by omega) dX10_childChanges_34 ?_
      rw [(kg g hg).1]
      refine G_iconst hC dX10_childChanges_35 ?_
      refine G_icmp_ne (tgt := 80) hC dX10_childChanges_36 (by decide) (by omega) (by omega) (fun c36 => ?_) (fun c36 => ?_)
      · exact G_vret hC hQ dX10_childChanges_80 ⟨rfl, rfl, hno (fun z => by first | omega | exact z.2.1 (nv_7.mp c46) | exact z.2.2 hl), eqx.refl⟩
      · refine G_al0 hC dX10_childChanges_39 ?_
        refine G_getR hC fl_X10_61 (by first | assumption | rfl) (by omega) (by first | assumption | exact hGr _ _ rfl) dX10_childChanges_40 ?_
        refine G_il1 hC dX10_childChanges_43 ?_
        refine G_ialoadN (n := g) hC (by first | assumption | rfl) (by omega) (by omega) (by omega) dX10_childChanges_44 ?_
        rw [hS g hg]
        refine G_iconst hC dX10_childChanges_45 ?_
        refine G_icmp_eq (tgt := 80) hC dX10_childChanges_46 (by decide) (by omega) (by omega) (fun c46 => ?_) (fun c46 => ?_)
        · exact G_vret hC hQ dX10_childChanges_80 ⟨rfl, rfl, hno (fun z => by first | omega | exact z.2.1 (nv_7.mp c46) | exact z.2.2 hl), eqx.refl⟩
        · refine G_il2 hC dX10_childChanges_49 ?_
          refine G_iconst hC dX10_childChanges_50 ?_
          refine G_icmp_eq (tgt := 80) hC dX10_childChanges_51 (by decide) (by omega) (by omega) (fun c51 => ?_) (fun c51 => ?_)
          · exact G_vret hC hQ dX10_childChanges_80 ⟨rfl, rfl, hno (fun z => by first | omega | exact z.2.1 (nv_7.mp c46) | exact z.2.2 hl), eqx.refl⟩
          · exact absurd rfl c51
    · rw [if_neg hl] at hnx
      subst hnx
      refine G_al0 hC dX10_childChanges_29 ?_
      refine G_getR hC fl_X10_64 (by first | assumption | rfl) (by omega) (by first | assumption | exact hGr _ _ rfl) dX10_childChanges_30 ?_
      refine G_il1 hC dX10_childChanges_33 ?_
      refine G_ialoadN (n := g) hC (by first | assumption | rfl) (by omega) (by omega) (by omega) dX10_childChanges_34 ?_
      rw [(kg g hg).1]
      refine G_iconst hC dX10_childChanges_35 ?_
      refine G_icmp_ne (tgt := 80) hC dX10_childChanges_36 (by decide) (by omega) (by omega) (fun c36 => ?_) (fun c36 => ?_)
      · exact G_vret hC hQ dX10_childChanges_80 ⟨rfl, rfl, by
  first
    | (exact hno (fun z => by first | omega | exact z.2.1 (nv_7.mp c46)))
    | (unfold chd; rw [if_pos ⟨by omega, fun e => c46 (nv_7.mpr e), hl⟩]; exact SpR_up (SpR_up hS rfl) rfl), by
  first
    | exact eqx.refl
    | exact s63_up.trans s63_up⟩
      · refine G_al0 hC dX10_childChanges_39 ?_
        refine G_getR hC fl_X10_61 (by first | assumption | rfl) (by omega) (by first | assumption | exact hGr _ _ rfl) dX10_childChanges_40 ?_
        refine G_il1 hC dX10_childChanges_43 ?_
        refine G_ialoadN (n := g) hC (by first | assumption | rfl) (by omega) (by omega) (by omega) dX10_childChanges_44 ?_
        rw [hS g hg]
        refine G_iconst hC dX10_childChanges_45 ?_
        refine G_icmp_eq (tgt := 80) hC dX10_childChanges_46 (by decide) (by omega) (by omega) (fun c46 => ?_) (fun c46 => ?_)
        · exact G_vret hC hQ dX10_childChanges_80 ⟨rfl, rfl, by
  first
    | (exact hno (fun z => by first | omega | exact z.2.1 (nv_7.mp c46)))
    | (unfold chd; rw [if_pos ⟨by omega, fun e => c46 (nv_7.mpr e), hl⟩]; exact SpR_up (SpR_up hS rfl) rfl), by
  first
    | exact eqx.refl
    | exact s63_up.trans s63_up⟩
        · refine G_il2 hC dX10_childChanges_49 ?_
          refine G_iconst hC dX10_childChanges_50 ?_
          refine G_icmp_eq (tgt := 80) hC dX10_childChanges_51 (by decide) (by omega) (by omega) (fun c51 => ?_) (fun c51 => ?_)
          · exact absurd c51 (by omega)
          · refine G_al0 hC dX10_childChanges_54 ?_
            refine G_getR hC fl_X10_61 (by first | assumption | rfl) (by omega) (by first | assumption | exact hGr _ _ rfl) dX10_childChanges_55 ?_
            refine G_il1 hC dX10_childChanges_58 ?_
            refine G_ialoadN (n := g) hC (by first | assumption | rfl) (by omega) (by omega) (by omega) dX10_childChanges_59 ?_
            rw [hS g hg]
            refine G_is3 hC dX10_childChanges_60 rfl ?_
            refine G_al0 hC dX10_childChanges_61 ?_
            refine G_getR hC fl_X10_61 (by first | assumption | rfl) (by omega) (by first | assumption | exact hGr _ _ rfl) dX10_childChanges_62 ?_
            refine G_il1 hC dX10_childChanges_65 ?_
            refine G_al0 hC dX10_childChanges_66 ?_
            refine G_getR hC fl_X10_61 (by first | assumption | rfl) (by omega) (by first | assumption | exact hGr _ _ rfl) dX10_childChanges_67 ?_
            refine G_il2 hC dX10_childChanges_70 ?_
            refine G_ialoadN (n := nxt T g 1) hC (by first | assumption | rfl) (by omega) (by omega) (by omega) dX10_childChanges_71 ?_
            rw [hS _ hn]
            refine G_iastoreN (n := g) hC (by first | assumption | rfl) (by omega) (by omega) (by omega) dX10_childChanges_72 ?_
            refine G_al0 hC dX10_childChanges_73 ?_
            refine G_getR hC fl_X10_61 (by first | assumption | rfl) (by omega) (by first | assumption | exact hGr _ _ rfl) dX10_childChanges_74 ?_
            refine G_il2 hC dX10_childChanges_77 ?_
            refine G_il3 hC dX10_childChanges_78 ?_
            refine G_iastoreN (n := nxt T g 1) hC (by first | assumption | rfl) (by omega) (by omega) (by omega) dX10_childChanges_79 ?_
            exact G_vret hC hQ dX10_childChanges_80 ⟨rfl, rfl, by
  first
    | (exact hno (fun z => by first | omega | exact z.2.1 (nv_7.mp c46)))
    | (unfold chd; rw [if_pos ⟨by omega, fun e => c46 (nv_7.mpr e), hl⟩]; exact SpR_up (SpR_up hS rfl) rfl), by
  first
    | exact eqx.refl
    | exact s63_up.trans s63_up⟩
  refine G_il1 hC dX10_childChanges_0 ?_
  refine G_iconst hC dX10_childChanges_1 ?_
  refine G_iadd hC dX10_childChanges_2 ?_
  refine G_al0 hC dX10_childChanges_3 ?_
  refine G_getI hC fl_X10_116 (by first | assumption | rfl) (by omega) dX10_childChanges_4 ?_
  rw [k0]
  refine G_icmp_ge (tgt := 16) hC dX10_childChanges_7 (by decide) (by omega) (by omega) (fun c7 => ?_) (fun c7 => ?_)
  · refine G_al0 hC dX10_childChanges_16 ?_
    refine G_getI hC fl_X10_173 (by first | assumption | rfl) (by omega) dX10_childChanges_17 ?_
    rw [k2]
    refine G_if_eq (tgt := 27) hC dX10_childChanges_20 (by decide) (by omega) (fun c20 => ?_) (fun c20 => ?_)
    · refine G_iconst hC dX10_childChanges_27 ?_
      refine G_is2 hC dX10_childChanges_28 rfl ?_
      exact hgo _ _ (by
        unfold nxt
        rw [if_pos rfl]
        split <;> first | omega | (split <;> omega))
    · refine G_iconst hC dX10_childChanges_23 ?_
      refine G_goto (tgt := 28) hC dX10_childChanges_24 (by decide) ?_
      refine G_is2 hC dX10_childChanges_28 rfl ?_
      exact hgo _ _ (by
        unfold nxt
        rw [if_pos rfl]
        split <;> first | omega | (split <;> omega))
  · refine G_il1 hC dX10_childChanges_10 ?_
    refine G_iconst hC dX10_childChanges_11 ?_
    refine G_iadd hC dX10_childChanges_12 ?_
    refine G_goto (tgt := 28) hC dX10_childChanges_13 (by decide) ?_
    refine G_is2 hC dX10_childChanges_28 rfl ?_
    exact hgo _ _ (by
      unfold nxt
      rw [if_pos rfl]
      split <;> first | omega | (split <;> omega))
def hndN (n r i j : Nat) : Nat := if r = 0 then (if i ≤ j then j - i else i - j) else min (if i ≤ j then j - i else j + n - i) (n - (if i ≤ j then j - i else j + n - i))
def stpN (n r i j : Nat) : Nat := if r = 0 then (if i < j then 1 else 0) else (if (if i ≤ j then j - i else j + n - i) ≤ n - (if i ≤ j then j - i else j + n - i) then 1 else 0)
def wkN (n to u : Nat) : Nat → Nat → Bool
  | 0, s => decide (nx n s u = to)
  | m + 1, s => decide (nx n s u ≠ to) && wkN n to u m (nx n s u)
set_option maxRecDepth 100000 in
theorem wk_all : ∀ n, n < 7 → ∀ i, i < n → ∀ j, j < n → ∀ r, r < 2 → i ≠ j → (wkN n j (stpN n r i j) (hndN n r i j - 1) i && wkN n i (1 - stpN n r i j) (hndN n r i j - 1) j) = true := by decide
theorem car_go {T : TB} {to u : Nat} : ∀ m k (f : Nat → Nat) (d s : Nat), m < k → wkN (tn T) to u m s = true → car T k f d (nxt T s u) to u = ud (goF T m f d s u).1 to (goF T m f d s u).2
  | 0, k, f, d, s, hk, h => by
    unfold wkN at h
    have h' : nxt T s u = to := of_decide_eq_true h
    cases k with
    | zero => omega
    | succ k => unfold car; rw [if_pos h']; rfl
  | m + 1, k, f, d, s, hk, h => by
    unfold wkN at h
    rw [Bool.and_eq_true] at h
    have h' : nxt T s u ≠ to := of_decide_eq_true h.1
    cases k with
    | zero => omega
    | succ k =>
      unfold car goF
      rw [if_neg h']
      by_cases z : tk T (nxt T s u) = 1 ∧ wo T (nxt T s u) (f (nxt T s u)) < wo T (nxt T s u) d
      · rw [if_pos z, if_pos z]
        exact car_go m k _ _ _ (by omega) h.2
      · rw [if_neg z, if_neg z]
        exact car_go m k _ _ _ (by omega) h.2
theorem aft_go {T : TB} {f : Nat → Nat} {i j : Nat} (h6 : tn T ≤ 6) (hr : tr T ≤ 1) (hi : i < tn T) (hj : j < tn T) (hij : i ≠ j) : aft T f i j = (let y := goF T (hnd T i j - 1) (ud (ud f i 7) j 7) (f i) i (stp T i j); let z := goF T (hnd T i j - 1) (ud y.1 j y.2) (f j) j (1 - stp T i j); chd T (chd T (ud z.1 i z.2) i) j) := by
  have w0 := wk_all (tn T) (by omega) i hi j hj (tr T) (by omega) hij
  rw [Bool.and_eq_true] at w0
  have w1 : wkN (tn T) j (stp T i j) (hnd T i j - 1) i = true := w0.1
  have w2 : wkN (tn T) i (1 - stp T i j) (hnd T i j - 1) j = true := w0.2
  have h5 := hnd_le5 (T := T) h6 hi hj
  unfold aft
  rw [car_go (hnd T i j - 1) 6 _ (f i) i (by omega) w1, car_go (hnd T i j - 1) 6 _ (f j) j (by omega) w2]
theorem hnd_pos {T : TB} {i j : Nat} (h6 : tn T ≤ 6) (hi : i < tn T) (hj : j < tn T) (hij : i ≠ j) : 1 ≤ hnd T i j := by
  unfold hnd sR
  split
  · split <;> omega
  · split <;> omega
set_option maxHeartbeats 4000000 in
set_option maxRecDepth 100000 in
theorem c_X10_asks {l : Launch} {T : TB} {W f : Nat → Nat} {i j : Nat} {M : Mem} {P : PMem} (hGr : GrM P) (hk : SkR M T W) (hS : SpR M (tn T) f) (hf : lieN (tn T) f) (hi : i < tn T) (hj : j < tn T) (hij : i ≠ j) : CtV l yX10_asks cX10_asks 8 none 2 50 77 [vR 45, vI i, vI j] M P (spQ M P (tn T) (aft T f i j)) := by
  refine Ct_of (own := RX10) (L := [vR 45, vI i, vI j, vX 1, vX 1, vX 1, vX 1, vX 1]) (by decide) rfl rfl (Nat.le_of_ble_eq_true rfl) (fun X Y hl hC hQ => ?_)
  obtain ⟨⟨k0, k2⟩, ⟨o2, o6, or1, oT⟩, kg⟩ := id hk
  have hwr := wyF_r (T := T) o6 hi hj
  obtain ⟨hw1, hw2⟩ := way_ok (T := T) o6 or1 hi hj
  replace hw2 := hw2 hij
  have hst := stp_le (T := T) (i := i) (j := j)
  have h5 := hnd_le5 (T := T) o6 hi hj
  have h1p := hnd_pos (T := T) o6 hi hj hij
  have haft := aft_go (T := T) (f := f) o6 or1 hi hj hij
  have main : ∀ (way sv bt : Int) (x6 x7 : AV), sv = 2 * ((stp T i j : Nat) : Int) - 1 → bt = ((hnd T i j - 1 : Nat) : Int) → G X Y 26 [vR 45, vI i, vI j, vI way, vI sv, vI bt, x6, x7] [] M P := by
    intro way sv bt x6 x7 hsv hbt
    subst hbt
    have l1 : lieN (tn T) (ud (ud f i 7) j 7) := fun g hg => by
      unfold ud; split
      · exact Or.inr rfl
      · split
        · exact Or.inr rfl
        · exact hf g hg
    have hS1 : SpR (upM (upM M 63 i (-1)) 63 j (-1)) (tn T) (ud (ud f i 7) j 7) := SpR_up (SpR_up hS rfl) rfl
    have hx1 : eqx s63 M (upM (upM M 63 i (-1)) 63 j (-1)) := s63_up.trans s63_up
    have kx : ∀ M', eqx s63 M M' → SkR M' T W := fun M' h => SkR_x hk (fun b hb => h 45 (by unfold s63; omega) b) (fun a h1 h2 b => h a (by unfold s63; omega) b)
    obtain ⟨l2, l3⟩ := goF_lie (u := stp T i j) o2 (hnd T i j - 1) (ud (ud f i 7) j 7) (f i) i hi l1 (hf i hi)
    have l4 : lieN (tn T) (ud (goF T (hnd T i j - 1) (ud (ud f i 7) j 7) (f i) i (stp T i j)).1 j (goF T (hnd T i j - 1) (ud (ud f i 7) j 7) (f i) i (stp T i j)).2) := fun g hg => by
      unfold ud; split
      · exact l3
      · exact l2 g hg
    obtain ⟨l5, l6⟩ := goF_lie (u := 1 - stp T i j) o2 (hnd T i j - 1) _ (f j) j hj l4 (hf j hj)
    have l7 : lieN (tn T) (ud (goF T (hnd T i j - 1) (ud (goF T (hnd T i j - 1) (ud (ud f i 7) j 7) (f i) i (stp T i j)).1 j (goF T (hnd T i j - 1) (ud (ud f i 7) j 7) (f i) i (stp T i j)).2) (f j) j (1 - stp T i j)).1 i (goF T (hnd T i j - 1) (ud (goF T (hnd T i j - 1) (ud (ud f i 7) j 7) (f i) i (stp T i j)).1 j (goF T (hnd T i j - 1) (ud (ud f i 7) j 7) (f i) i (stp T i j)).2) (f j) j (1 - stp T i j)).2) := fun g hg => by
      unfold ud; split
      · exact l6
      · exact l5 g hg
    refine G_al0 hC dX10_asks_26 ?_
    refine G_getR hC fl_X10_61 (by first | assumption | rfl) (by omega) (by first | assumption | exact hGr _ _ rfl) dX10_asks_27 ?_
    refine G_il1 hC dX10_asks_30 ?_
    refine G_ialoadN (n := i) hC (by first | assumption | rfl) (by omega) (by omega) (by omega) dX10_asks_31 ?_
    rw [hS i hi]
    refine G_is6 hC dX10_asks_32 rfl ?_
    refine G_al0 hC dX10_asks_34 ?_
    refine G_getR hC fl_X10_61 (by first | assumption | rfl) (by omega) (by first | assumption | exact hGr _ _ rfl) dX10_asks_35 ?_
    refine G_il2 hC dX10_asks_38 ?_
    refine G_ialoadN (n := j) hC (by first | assumption | rfl) (by omega) (by omega) (by omega) dX10_asks_39 ?_
    rw [hS j hj]
    refine G_is7 hC dX10_asks_40 rfl ?_
    refine G_al0 hC dX10_asks_42 ?_
    refine G_getR hC fl_X10_61 (by first | assumption | rfl) (by omega) (by first | assumption | exact hGr _ _ rfl) dX10_asks_43 ?_
    refine G_il1 hC dX10_asks_46 ?_
    refine G_iconst hC dX10_asks_47 ?_
    refine G_iastoreN (n := i) hC (by first | assumption | rfl) (by omega) (by omega) (by omega) dX10_asks_48 ?_
    refine G_al0 hC dX10_asks_49 ?_
    refine G_getR hC fl_X10_61 (by first | assumption | rfl) (by omega) (by first | assumption | exact hGr _ _ rfl) dX10_asks_50 ?_
    refine G_il2 hC dX10_asks_53 ?_
    refine G_iconst hC dX10_asks_54 ?_
    refine G_iastoreN (n := j) hC (by first | assumption | rfl) (by omega) (by omega) (by omega) dX10_asks_55 ?_
    refine G_al0 hC dX10_asks_56 ?_
    refine G_getR hC fl_X10_61 (by first | assumption | rfl) (by omega) (by first | assumption | exact hGr _ _ rfl) dX10_asks_57 ?_
    refine G_il2 hC dX10_asks_60 ?_
    refine G_al0 hC dX10_asks_61 ?_
    refine G_il6 hC dX10_asks_62 ?_
    refine G_il1 hC dX10_asks_64 ?_
    refine G_il4 hC dX10_asks_65 ?_
    refine G_il5 hC dX10_asks_67 ?_
    refine G_callVI hC (c_X10_goes (u := stp T i j) hGr (kx _ hx1) hS1 l1 (hf i hi) hi (by omega) (by omega)) mv_X10_212 (by first | assumption | rfl) (by omega) (by decide) rfl (by decide) dX10_asks_69 rfl (Nat.le_of_ble_eq_true rfl) rfl (fun z69 M69 P69 h69 => ?_)
    obtain ⟨rfl, rfl, p2, p3⟩ := h69
    have hS2 := SpR_up (i := j) (d := (goF T (hnd T i j - 1) (ud (ud f i 7) j 7) (f i) i (stp T i j)).2) p2 rfl
    have hx2 := (hx1.trans p3).trans (s63_up (j := j) (v := nv (goF T (hnd T i j - 1) (ud (ud f i 7) j 7) (f i) i (stp T i j)).2))
    refine G_iastoreN (n := j) hC (by first | assumption | rfl) (by omega) (by omega) (by omega) dX10_asks_72 ?_
    refine G_al0 hC dX10_asks_73 ?_
    refine G_getR hC fl_X10_61 (by first | assumption | rfl) (by omega) (by first | assumption | exact hGr _ _ rfl) dX10_asks_74 ?_
    refine G_il1 hC dX10_asks_77 ?_
    refine G_al0 hC dX10_asks_78 ?_
    refine G_il7 hC dX10_asks_79 ?_
    refine G_il2 hC dX10_asks_81 ?_
    refine G_il4 hC dX10_asks_82 ?_
    refine G_ineg hC dX10_asks_84 ?_
    refine G_il5 hC dX10_asks_85 ?_
    refine G_callVI hC (c_X10_goes (u := 1 - stp T i j) hGr (kx _ hx2) hS2 l4 (hf j hj) hj (by omega) (by omega)) mv_X10_212 (by first | assumption | rfl) (by omega) (by decide) rfl (by decide) dX10_asks_87 rfl (Nat.le_of_ble_eq_true rfl) rfl (fun z87 M87 P87 h87 => ?_)
    obtain ⟨rfl, rfl, p4, p5⟩ := h87
    have hS4 := SpR_up (i := i) (d := (goF T (hnd T i j - 1) (ud (goF T (hnd T i j - 1) (ud (ud f i 7) j 7) (f i) i (stp T i j)).1 j (goF T (hnd T i j - 1) (ud (ud f i 7) j 7) (f i) i (stp T i j)).2) (f j) j (1 - stp T i j)).2) p4 rfl
    have hx4 := (hx2.trans p5).trans (s63_up (j := i) (v := nv (goF T (hnd T i j - 1) (ud (goF T (hnd T i j - 1) (ud (ud f i 7) j 7) (f i) i (stp T i j)).1 j (goF T (hnd T i j - 1) (ud (ud f i 7) j 7) (f i) i (stp T i j)).2) (f j) j (1 - stp T i j)).2))
    refine G_iastoreN (n := i) hC (by first | assumption | rfl) (by omega) (by omega) (by omega) dX10_asks_90 ?_
    refine G_al0 hC dX10_asks_91 ?_
    refine G_il1 hC dX10_asks_92 ?_
    refine G_callVV hC (c_X10_childChanges hGr (kx _ hx4) hS4 l7 hi) mv_X10_216 (by first | assumption | rfl) (by omega) (by decide) rfl (by decide) dX10_asks_93 rfl (Nat.le_of_ble_eq_true rfl) rfl (fun M93 P93 h93 => ?_)
    obtain ⟨rfl, q2, q3⟩ := h93
    have hx5 := hx4.trans q3
    refine G_al0 hC dX10_asks_96 ?_
    refine G_il2 hC dX10_asks_97 ?_
    refine G_callVV hC (c_X10_childChanges hGr (kx _ hx5) q2 (chd_lieN o2 hi l7) hj) mv_X10_216 (by first | assumption | rfl) (by omega) (by decide) rfl (by decide) dX10_asks_98 rfl (Nat.le_of_ble_eq_true rfl) rfl (fun M98 P98 h98 => ?_)
    obtain ⟨rfl, q4, q5⟩ := h98
    exact G_vret hC hQ dX10_asks_101 ⟨rfl, rfl, by rw [haft]; exact q4, hx5.trans q5⟩
  refine G_al0 hC dX10_asks_0 ?_
  refine G_il1 hC dX10_asks_1 ?_
  refine G_il2 hC dX10_asks_2 ?_
  refine G_callVI hC (c_X10_wayOf hGr k0 k2 o2 o6 or1 hi hj) mv_X10_202 (by first | assumption | rfl) (by omega) (by decide) rfl (by decide) dX10_asks_3 rfl (Nat.le_of_ble_eq_true rfl) rfl (fun z3 M3 P3 h3 => ?_)
  obtain ⟨rfl, rfl, rfl⟩ := h3
  refine G_is3 hC dX10_asks_6 rfl ?_
  refine G_il3 hC dX10_asks_7 ?_
  refine G_if_ge (tgt := 15) hC dX10_asks_8 (by decide) (by omega) (fun c8 => ?_) (fun c8 => ?_)
  · refine G_iconst hC dX10_asks_15 ?_
    refine G_is4 hC dX10_asks_16 rfl ?_
    refine G_il3 hC dX10_asks_18 ?_
    refine G_il4 hC dX10_asks_19 ?_
    refine G_imul hC dX10_asks_21 ?_
    refine G_iconst hC dX10_asks_22 ?_
    refine G_isub hC dX10_asks_23 ?_
    refine G_is5 hC dX10_asks_24 rfl ?_
    rw [if_neg (by omega)] at hw1 hw2
    exact main _ _ _ _ _ (by omega) (by omega)
  · refine G_iconst hC dX10_asks_11 ?_
    refine G_goto (tgt := 16) hC dX10_asks_12 (by decide) ?_
    refine G_is4 hC dX10_asks_16 rfl ?_
    refine G_il3 hC dX10_asks_18 ?_
    refine G_il4 hC dX10_asks_19 ?_
    refine G_imul hC dX10_asks_21 ?_
    refine G_iconst hC dX10_asks_22 ?_
    refine G_isub hC dX10_asks_23 ?_
    refine G_is5 hC dX10_asks_24 rfl ?_
    rw [if_pos (by omega)] at hw1 hw2
    exact main _ _ _ _ _ (by omega) (by omega)
