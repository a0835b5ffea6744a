/-! how it may have gone -/
theorem tot_congr {f g : Nat → Int} : ∀ n, (∀ i, i < n → f i = g i) → tot f n = tot g n
  | 0, _ => rfl
  | n + 1, h => by unfold tot; rw [tot_congr n (fun i hi => h i (by omega)), h n (by omega)]
theorem tot_zero {f : Nat → Int} : ∀ n, (∀ i, i < n → f i = 0) → tot f n = 0
  | 0, _ => rfl
  | n + 1, h => by unfold tot; rw [tot_zero n (fun i hi => h i (by omega)), h n (by omega)]; rfl
theorem tot_add {f : Nat → Int} {x : Nat} : ∀ y, tot f (x + y) = tot f x + tot (fun t => f (x + t)) y
  | 0 => by show tot f x = tot f x + 0; omega
  | y + 1 => by
    show tot f (x + y) + f (x + y) = tot f x + (tot (fun t => f (x + t)) y + f (x + y))
    rw [tot_add y]; omega
theorem tot_re {N : Nat} {s : Nat → Nat} : ∀ len (F : Nat → Int), (∀ k, k < len → s k < N) → (∀ a b, a < len → b < len → s a = s b → a = b) → (∀ l, l < N → (∀ k, k < len → s k ≠ l) → F l = 0) → tot F N = tot (fun k => F (s k)) len
  | 0, F, _, _, h => tot_zero N (fun l hl => h l hl (fun k hk => by omega))
  | len + 1, F, h1, h2, h3 => by
    have ih := tot_re len (fun l => if l = s len then 0 else F l) (fun k hk => h1 k (by omega)) (fun a b ha hb => h2 a b (by omega) (by omega)) (fun l hl hk => by
      by_cases z : l = s len
      · exact if_pos z
      · refine (if_neg z).trans (h3 l hl (fun k hk' => ?_))
        by_cases y : k = len
        · rw [y]; exact fun e => z e.symm
        · exact hk k (by omega))
    have e : tot F N = tot (fun l => if l = s len then 0 else F l) N + F (s len) := by
      have hu := tot_up (w := fun l => if l = s len then 0 else F l) (a := s len) (m := F (s len)) N
      rw [if_pos (h1 len (by omega))] at hu
      rw [← hu]
      refine tot_congr N (fun i _ => ?_)
      (try dsimp only)
      by_cases z : i = s len
      · rw [if_pos z, if_pos z, z]; omega
      · rw [if_neg z, if_neg z]
    rw [e, ih]
    show _ = tot (fun k => F (s k)) len + F (s len)
    rw [tot_congr len (fun k hk => ?_)]
    (try dsimp only)
    rw [if_neg]
    intro z
    have := h2 k len (by omega) (by omega) z
    omega
theorem tot2 {g : Nat → Nat → Int} {n : Nat} (hn : 0 < n) : ∀ m, tot (fun i => tot (g i) n) m = tot (fun a => g (a / n) (a % n)) (m * n)
  | 0 => by rw [Nat.zero_mul]; rfl
  | m + 1 => by
    rw [Nat.succ_mul, tot_add (f := fun a => g (a / n) (a % n)), ← tot2 hn m]
    show tot (fun i => tot (g i) n) m + tot (g m) n = _
    rw [tot_congr n (fun t ht => ?_)]
    (try dsimp only)
    rw [show (m * n + t) / n = m by rw [Nat.mul_comm, Nat.mul_add_div hn, Nat.div_eq_of_lt ht]; omega, show (m * n + t) % n = t by rw [Nat.mul_comm, Nat.mul_add_mod, Nat.mod_eq_of_lt ht]]
def wgB (mf : Nat → Nat → Nat) (b i j : Nat) : Int := if mf i j = b ∧ b < 720 then 1 else 0
theorem sw1_at {mf : Nat → Nat → Nat} {many : Int} {i j b : Nat} {w : Nat → Int} : sw1 mf many i j w b = w b + many * wgB mf b i j := by
  unfold sw1 wgB
  by_cases z : mf i j < 720
  · rw [if_pos z]
    by_cases y : b = mf i j
    · rw [if_pos y, if_pos ⟨y.symm, by omega⟩, Int.mul_one]
    · rw [if_neg y, if_neg (fun w => y w.1.symm), Int.mul_zero]; omega
  · rw [if_neg z, if_neg (fun w => z (by omega)), Int.mul_zero]; omega
theorem wyJ_f {mf : Nat → Nat → Nat} {many : Int} {i b : Nat} : ∀ c j (w : Nat → Int), wyJ mf many i c j w b = w b + many * (tot (wgB mf b i) (j + c) - tot (wgB mf b i) j)
  | 0, j, w => by
    show w b = w b + many * (tot (wgB mf b i) j - tot (wgB mf b i) j)
    rw [Int.sub_self, Int.mul_zero]; omega
  | c + 1, j, w => by
    show wyJ mf many i c (j + 1) (sw1 mf many i j w) b = _
    rw [wyJ_f c (j + 1), sw1_at, show j + 1 + c = j + (c + 1) by omega]
    show w b + many * wgB mf b i j + many * (tot (wgB mf b i) (j + (c + 1)) - (tot (wgB mf b i) j + wgB mf b i j)) = _
    rw [Int.mul_sub, Int.mul_add, Int.mul_sub]; omega
theorem wyI_f {n : Nat} {mf : Nat → Nat → Nat} {many : Int} {b : Nat} : ∀ c i (w : Nat → Int), wyI n mf many c i w b = w b + many * (tot (fun i => tot (wgB mf b i) n) (i + c) - tot (fun i => tot (wgB mf b i) n) i)
  | 0, i, w => by
    show w b = w b + many * (tot (fun i => tot (wgB mf b i) n) i - tot (fun i => tot (wgB mf b i) n) i)
    rw [Int.sub_self, Int.mul_zero]; omega
  | c + 1, i, w => by
    show wyI n mf many c (i + 1) (wyJ mf many i n 0 w) b = _
    rw [wyI_f c (i + 1), wyJ_f, show i + 1 + c = i + (c + 1) by omega, Nat.zero_add]
    show w b + many * (tot (wgB mf b i) n - 0) + many * (tot (fun i => tot (wgB mf b i) n) (i + (c + 1)) - (tot (fun i => tot (wgB mf b i) n) i + tot (wgB mf b i) n)) = _
    rw [Int.mul_sub, Int.mul_sub, Int.mul_add, Int.mul_sub, Int.mul_zero]; omega
theorem wyL_f {n : Nat} {mf : Nat → Nat → Nat → Nat} {w0 : Nat → Int} {b : Nat} : ∀ c l (w : Nat → Int), wyL n mf w0 c l w b = w b + (tot (fun x => w0 x * tot (fun i => tot (wgB (mf x) b i) n) n) (l + c) - tot (fun x => w0 x * tot (fun i => tot (wgB (mf x) b i) n) n) l)
  | 0, l, w => by
    show w b = w b + (tot _ l - tot _ l)
    omega
  | c + 1, l, w => by
    have e : tot (fun x => w0 x * tot (fun i => tot (wgB (mf x) b i) n) n) (l + 1) = tot (fun x => w0 x * tot (fun i => tot (wgB (mf x) b i) n) n) l + w0 l * tot (fun i => tot (wgB (mf l) b i) n) n := rfl
    unfold wyL
    by_cases z : w0 l = 0
    · rw [if_pos z, wyL_f c (l + 1), e, z, Int.zero_mul, show l + 1 + c = l + (c + 1) by omega]; omega
    · rw [if_neg z, wyL_f c (l + 1), e, wyI_f, Nat.zero_add, show l + 1 + c = l + (c + 1) by omega, show tot (fun i => tot (wgB (mf l) b i) n) 0 = 0 by rfl, Int.mul_sub, Int.mul_zero]
      omega
theorem wyN_s {n : Nat} {mf : Nat → Nat → Nat → Nat} : ∀ e (w : Nat → Int), wyN n mf (e + 1) w = wyL n mf (wyN n mf e w) 720 0 (fun _ => 0)
  | 0, w => rfl
  | e + 1, w => by
    show wyN n mf (e + 1) (wyL n mf w 720 0 (fun _ => 0)) = _
    rw [wyN_s e]; rfl
noncomputable def wgC (T : TB) (L : List BE) (k p i j : Nat) : Int := by classical exact if can T (dgf (ent L k).1) i j ∧ enc (aft T (dgf (ent L k).1) i j) = (ent L p).1 then 1 else 0
noncomputable def mAp (T : TB) (L : List BE) (k p : Nat) : Int := tot (fun a => wgC T L k p (a / tn T) (a % tn T)) (tn T * tn T)
noncomputable def nwF (T : TB) (L : List BE) (v : Nat → Int) (p : Nat) : Int := tot (fun k => v k * mAp T L k p) L.length
noncomputable def wvF (T : TB) (L : List BE) : Nat → Nat → Int
  | 0 => fun k => if k = 0 then 1 else 0
  | e + 1 => nwF T L (wvF T L e)
noncomputable def wentS (S : AS) (i : Int) : Int := if 0 ≤ i ∧ i ≤ 8 then (match fstN (fun x => x.1 = enc (sNow S).1) (FB (sT S) (enc (sF0 S))) with
  | none => 0
  | some p => wvF (sT S) (FB (sT S) (enc (sF0 S))) i.toNat p.1) else -1
def WRl (N : Nat) (lq : Nat → Nat) (L : List BE) (w v : Nat → Int) : Prop := (∀ (k : Nat) (e : BE) (l : Nat), L[k]? = some e → l < N → lq l = e.1 → v k = w l) ∧ ∀ l, (N ≤ l ∨ ∀ e ∈ L, lq l ≠ e.1) → w l = 0
section WENT
variable {T : TB} {N : Nat} {lq f0 : Nat → Nat} {L : List BE} {mf : Nat → Nat → Nat → Nat}
theorem WR_s (hX : KX T N lq f0) (hi : ∀ a b, a < N → b < N → lq a = lq b → a = b) (hm : MFo T N lq mf) (hFd : bDi L) (hFm : ∀ x ∈ L, ∃ l, l < N ∧ lq l = x.1) (hcl : ∀ e ∈ L, ∀ i j, can T (dgf e.1) i j → ∃ x ∈ L, x.1 = enc (aft T (dgf e.1) i j)) {w v : Nat → Int} (h : WRl N lq L w v) : WRl N lq L (wyL (tn T) mf w 720 0 (fun _ => 0)) (nwF T L v) := by
  obtain ⟨h1, h2⟩ := h
  have hN := hX.1.2.2.2
  have hn0 := hX.1.2.1
  have hf : ∀ b, wyL (tn T) mf w 720 0 (fun _ => 0) b = tot (fun x => w x * tot (fun i => tot (wgB (mf x) b i) (tn T)) (tn T)) 720 := fun b => by
    rw [wyL_f, Nat.zero_add]
    show (0 : Int) + (_ - 0) = _
    omega
  obtain ⟨s, hs⟩ : ∃ s : Nat → Nat, ∀ k, k < L.length → s k < N ∧ lq (s k) = (ent L k).1 := by
    have key : ∀ k, k < L.length → ∃ l, l < N ∧ lq l = (ent L k).1 := fun k hk => by
      have hx := List.getElem?_eq_getElem hk
      rw [ent_some hx]
      exact hFm _ (List.mem_of_getElem? hx)
    classical
    exact ⟨fun k => if hk : k < L.length then Classical.choose (key k hk) else 0, fun k hk => by dsimp only; rw [dif_pos hk]; exact Classical.choose_spec (key k hk)⟩
  refine ⟨fun p e l hp hl hle => ?_, fun l hl => ?_⟩
  · rw [hf]
    have hpl := (List.getElem?_eq_some_iff.mp hp).1
    have hep := ent_some hp
    rw [tot_re (s := s) L.length _ (fun k hk => by have := (hs k hk).1; omega) (fun a b ha hb e2 => ?_) (fun l' hl' hk0 => ?_)]
    · unfold nwF
      refine tot_congr L.length (fun k hk => ?_)
      obtain ⟨s1, s2⟩ := hs k hk
      have hx := List.getElem?_eq_getElem hk
      have hvk := h1 k _ (s k) hx s1 (by rw [s2, ent_some hx])
      rw [hvk]
      congr 1
      unfold mAp
      rw [tot2 hn0]
      refine tot_congr _ (fun a _ => ?_)
      generalize a / tn T = i
      generalize a % tn T = j
      unfold wgC wgB
      rw [← s2, hep, ← hle]
      by_cases hc : can T (dgf (lq (s k))) i j
      · obtain ⟨l', a1, a2, a3⟩ := (hm (s k) i j s1).1 hc
        by_cases z : enc (aft T (dgf (lq (s k))) i j) = lq l
        · rw [if_pos ⟨hc, z⟩, if_pos ⟨by rw [a2]; exact hi l' l a1 hl (by rw [a3, z]), by omega⟩]
        · rw [if_neg (fun y => z y.2), if_neg (fun y => z (by rw [← a3, ← a2, y.1]))]
      · rw [if_neg (fun y => hc y.1), if_neg (fun y => by have := (hm (s k) i j s1).2 hc; omega)]
    · have x1 := List.getElem?_eq_getElem ha
      have x2 := List.getElem?_eq_getElem hb
      refine hFd a b _ _ x1 x2 ?_
      rw [← ent_some x1, ← ent_some x2, ← (hs a ha).2, ← (hs b hb).2, e2]
    · have : w l' = 0 := h2 l' (by
        rcases Nat.lt_or_ge l' N with z | z
        · right
          intro x hx e2
          obtain ⟨k, hk⟩ := List.getElem?_of_mem hx
          have hkl := (List.getElem?_eq_some_iff.mp hk).1
          refine hk0 k hkl (hi _ _ (hs k hkl).1 z ?_)
          rw [(hs k hkl).2, ent_some hk, e2]
        · exact Or.inl z)
      rw [this, Int.zero_mul]
  · rw [hf]
    refine tot_zero _ (fun x hx => ?_)
    by_cases z : N ≤ x ∨ ∀ e ∈ L, lq x ≠ e.1
    · rw [h2 x z, Int.zero_mul]
    · have hxN : x < N := Nat.not_le.mp (fun y => z (Or.inl y))
      obtain ⟨e, he, hxe⟩ : ∃ e, e ∈ L ∧ lq x = e.1 := Classical.byContradiction fun y => z (Or.inr (fun e he e2 => y ⟨e, he, e2⟩))
      rw [tot_zero (tn T) (fun i _ => tot_zero (tn T) (fun j _ => ?_)), Int.mul_zero]
      unfold wgB
      rw [if_neg]
      rintro ⟨y1, y2⟩
      by_cases hc : can T (dgf (lq x)) i j
      · obtain ⟨l', a1, a2, a3⟩ := (hm x i j hxN).1 hc
        have hll : l' = l := by omega
        rw [hxe] at hc a3
        obtain ⟨y, yL, ye⟩ := hcl e he i j hc
        rcases hl with hl | hl
        · omega
        · exact hl y yL (by rw [← hll, a3, ye])
      · have := (hm x i j hxN).2 hc
        omega
theorem WR_n (hX : KX T N lq f0) (hi : ∀ a b, a < N → b < N → lq a = lq b → a = b) (hm : MFo T N lq mf) {l0 : Nat} (hl0 : l0 < N) (hL : L = FB T (lq l0)) : ∀ e, WRl N lq L (wyN (tn T) mf e (wy0 l0)) (wvF T L e)
  | 0 => by
    have hFd : bDi L := by rw [hL]; exact (FB_iv hX hl0).1
    have h0 := FB_hd hX hl0 hL
    refine ⟨fun k e l hk hl hle => ?_, fun l hl => ?_⟩
    · show (if k = 0 then (1 : Int) else 0) = if l = l0 then 1 else 0
      by_cases z : k = 0
      · rw [z, h0] at hk
        have := Option.some.inj hk
        rw [← this] at hle
        rw [if_pos z, if_pos (hi l l0 hl hl0 hle)]
      · rw [if_neg z, if_neg]
        intro y
        exact z (hFd k 0 e _ hk h0 (by rw [← hle, y]))
    · show (if l = l0 then (1 : Int) else 0) = 0
      rw [if_neg]
      intro y
      rcases hl with hl | hl
      · omega
      · exact hl _ (List.mem_of_getElem? h0) (by rw [y])
  | e + 1 => by
    obtain ⟨a1, a2, -⟩ := FB_iv hX hl0
    rw [wyN_s]
    exact WR_s hX hi hm (by rw [hL]; exact a1) (by rw [hL]; exact a2) (FB_clo hX hl0 hL) (WR_n hX hi hm hl0 hL e)
end WENT
theorem wentR_ok {c : Nat} {S : AS} {i r : Int} (hS : SOK c S) (h : wentR S i r) : r = wentS S i := by
  unfold wentS
  by_cases q : 0 ≤ i ∧ i ≤ 8
  · rw [if_pos q]
    obtain ⟨N, lq, mf, l0, l1, hLk, hm, h0, h1, h2, h3, h4⟩ := h.1 q
    have hX := lk_KX hS hLk (T' := sT S) rfl
    rw [h4, ← h1, ← h3]
    have hW := WR_n hX hLk.2.2 hm h0 rfl i.toNat
    by_cases z : ∃ x ∈ FB (sT S) (lq l0), x.1 = lq l1
    · obtain ⟨x, hx, hxe⟩ := z
      obtain ⟨k, e, hf⟩ := FST_ex (Pd := fun x => x.1 = lq l1) _ x hx hxe
      rw [fstN_1 hf]
      exact (hW.1 k e l1 hf.1 h2 hf.2.1.symm).symm
    · rw [fstN_0 (fun x hx hxe => z ⟨x, hx, hxe⟩)]
      exact hW.2 l1 (Or.inr (fun e he e2 => z ⟨e, he, e2.symm⟩))
  · rw [if_neg q]
    exact h.2 q
def woQ (M : Mem) (P : PMem) (T : TB) (L : List BE) (v : Nat → Int) : Mem → PMem → Prop := fun M' P' => P = P' ∧ (∀ k, k < L.length → M' 75 k = nwF T L v k) ∧ ∀ a, a ≠ 63 → a ≠ 75 → a ≠ 76 → ∀ b, M' a b = M a b
theorem wgC_1 {T : TB} {L : List BE} {k p i j : Nat} {e x : BE} (hk : L[k]? = some e) (hp : L[p]? = some x) (h : can T (dgf e.1) i j ∧ enc (aft T (dgf e.1) i j) = x.1) : wgC T L k p i j = 1 := by
  unfold wgC; rw [ent_some hk, ent_some hp, if_pos h]
theorem wgC_0 {T : TB} {L : List BE} {k p i j : Nat} {e x : BE} (hk : L[k]? = some e) (hp : L[p]? = some x) (h : ¬ (can T (dgf e.1) i j ∧ enc (aft T (dgf e.1) i j) = x.1)) : wgC T L k p i j = 0 := by
  unfold wgC; rw [ent_some hk, ent_some hp, if_neg h]
set_option maxHeartbeats 4000000 in
set_option maxRecDepth 100000 in
theorem c_X10_waysOn {l : Launch} {T : TB} {W f0 lq : Nat → Nat} {N st : Nat} {L : List BE} {v : Nat → Int} {M : Mem} {P : PMem} (hGr : GrM P) (hk : SkR M T W) (hX : KX T N lq f0) (hL : MLi M (tn T) st f0 L) (hFd : bDi L) (hFm : ∀ x ∈ L, ∃ l, l < N ∧ lq l = x.1) (hcl : ∀ e ∈ L, ∀ i j, can T (dgf e.1) i j → ∃ x ∈ L, x.1 = enc (aft T (dgf e.1) i j)) (hv : ∀ k, k < L.length → M 75 k = v k)  : CtV l yX10_waysOn cX10_waysOn 3 none 3 77 77 [vR 45] M P (woQ M P T L v) := by
  refine Ct_of (own := RX10) (L := [vR 45, vX 1, vX 1]) (by decide) rfl rfl (Nat.le_of_ble_eq_true rfl) (fun X Y hl hC hQ => ?_)
  obtain ⟨⟨k0, k2⟩, ⟨o2, o6, or1, oT⟩, kg⟩ := id hk
  obtain ⟨hgT, hLQ, hf0a, hf0b⟩ := id hX
  obtain ⟨t1, t2, t3, t4⟩ := id hgT
  have hlen := hL.2.1.1
  obtain ⟨nn, hnn⟩ : ∃ nn, tn T * tn T = nn := ⟨_, rfl⟩
  have hnz : (tn T : Int) * (tn T : Int) = (nn : Int) := by rw [← hnn]; simp
  have hn36 : nn ≤ 36 := by rw [← hnn]; exact Nat.mul_le_mul t1 t1
  have keep : ∀ M1 : Mem, (∀ a, a ≠ 63 → a ≠ 75 → a ≠ 76 → ∀ b, M1 a b = M a b) → MLi M1 (tn T) st f0 L ∧ SkR M1 T W := fun M1 hE =>
    ⟨MLi_x hL (fun b hb => hE 45 (by omega) (by omega) (by omega) b) (fun a h1 h2 b => hE a (by omega) (by omega) (by omega) b), SkR_x hk (fun b hb => hE 45 (by omega) (by omega) (by omega) b) (fun a h1 h2 b => hE a (by omega) (by omega) (by omega) b)⟩
  have h129 : ∀ (c k : Nat) (kv : Int) (x2 : AV) (M1 : Mem), k + c = L.length → kv = (k : Int) → (∀ p, p < k → M1 75 p = nwF T L v p) → (∀ p, p < L.length → M1 76 p = nwF T L v p) → (∀ a, a ≠ 63 → a ≠ 75 → a ≠ 76 → ∀ b, M1 a b = M a b) → G X Y 129 [vR 45, vI kv, x2] [] M1 P := by
    intro c
    induction c with
    | zero =>
      intro k kv x2 M1 hkc e1 hA hB hE
      subst e1
      have l1 := (keep M1 hE).1.1.1
      refine G_il1 hC dX10_waysOn_129 ?_
      refine G_al0 hC dX10_waysOn_130 ?_
      refine G_getI hC fl_X10_250 (by first | assumption | rfl) (by omega) dX10_waysOn_131 ?_
      rw [l1]
      refine G_icmp_ge (tgt := 155) hC dX10_waysOn_134 (by decide) (by omega) (by omega) (fun c134 => ?_) (fun c134 => ?_)
      · exact G_vret hC hQ dX10_waysOn_155 ⟨rfl, rfl, fun p hp => hA p (by omega), hE⟩
      · exact absurd c134 (by omega)
    | succ c ih =>
      intro k kv x2 M1 hkc e1 hA hB hE
      subst e1
      have l1 := (keep M1 hE).1.1.1
      have q1 := hB k (by omega)
      refine G_il1 hC dX10_waysOn_129 ?_
      refine G_al0 hC dX10_waysOn_130 ?_
      refine G_getI hC fl_X10_250 (by first | assumption | rfl) (by omega) dX10_waysOn_131 ?_
      rw [l1]
      refine G_icmp_ge (tgt := 155) hC dX10_waysOn_134 (by decide) (by omega) (by omega) (fun c134 => ?_) (fun c134 => ?_)
      · exact absurd c134 (by omega)
      · refine G_al0 hC dX10_waysOn_137 ?_
        refine G_getR hC fl_X10_99 (by first | assumption | rfl) (by omega) (by first | assumption | exact hGr _ _ rfl) dX10_waysOn_138 ?_
        refine G_il1 hC dX10_waysOn_141 ?_
        refine G_al0 hC dX10_waysOn_142 ?_
        refine G_getR hC fl_X10_103 (by first | assumption | rfl) (by omega) (by first | assumption | exact hGr _ _ rfl) dX10_waysOn_143 ?_
        refine G_il1 hC dX10_waysOn_146 ?_
        refine G_laloadN (n := k) hC (by first | assumption | rfl) (by omega) (by omega) (by omega) dX10_waysOn_147 ?_
        rw [q1]
        refine G_lastoreN (n := k) hC (by first | assumption | rfl) (by omega) (by omega) (by omega) dX10_waysOn_148 ?_
        refine G_inc1 hC dX10_waysOn_149 rfl ?_
        refine G_goto (tgt := 129) hC dX10_waysOn_152 (by decide) ?_
        exact ih (k + 1) _ _ _ (by omega) (by omega) (fun p hp => by
            by_cases z : p = k
            · rw [z, upM_self]
            · rw [upM_nej z]; exact hA p (by omega)) (fun p hp => by rw [upM_ne (by omega)]; exact hB p hp) (fun a h1 h2 h3 b => by rw [upM_ne h2]; exact hE a h1 h2 h3 b)
  have h25 : ∀ (c k : Nat) (kv : Int) (x2 : AV) (M1 : Mem), k + c = L.length → kv = (k : Int) → (∀ p, p < L.length → M1 76 p = tot (fun k => v k * mAp T L k p) k) → (∀ a, a ≠ 63 → a ≠ 76 → ∀ b, M1 a b = M a b) → G X Y 25 [vR 45, vI kv, x2] [] M1 P := by
    intro c
    induction c with
    | zero =>
      intro k kv x2 M1 hkc e1 hA hE
      subst e1
      have hkn : k = L.length := by omega
      rw [hkn] at hA
      have l1 := (keep M1 (fun a h1 h2 h3 b => hE a h1 h3 b)).1.1.1
      refine G_il1 hC dX10_waysOn_25 ?_
      refine G_al0 hC dX10_waysOn_26 ?_
      refine G_getI hC fl_X10_250 (by first | assumption | rfl) (by omega) dX10_waysOn_27 ?_
      rw [l1]
      refine G_icmp_ge (tgt := 127) hC dX10_waysOn_30 (by decide) (by omega) (by omega) (fun c30 => ?_) (fun c30 => ?_)
      · refine G_iconst hC dX10_waysOn_127 ?_
        refine G_is1 hC dX10_waysOn_128 rfl ?_
        exact h129 L.length 0 _ _ _ (by omega) rfl (fun p hp => by omega) hA (fun a h1 h2 h3 b => hE a h1 h3 b)
      · exact absurd c30 (by omega)
    | succ c ihK =>
      intro k kv x2 M1 hkc e1 hA hE
      subst e1
      have l1 := (keep M1 (fun a h1 h2 h3 b => hE a h1 h3 b)).1.1.1
      obtain ⟨e, hek⟩ : ∃ e, L[k]? = some e := ⟨L[k], List.getElem?_eq_getElem (by omega)⟩
      obtain ⟨le, hle1, hle2⟩ := hFm e (List.mem_of_getElem? hek)
      obtain ⟨el1, el2, el3, el4, el5, el6⟩ := KX_el hX hle1 hle2
      have h35 : ∀ (c2 a : Nat) (av : Int) (M2 : Mem), a + c2 = nn → av = (a : Int) → (∀ p, p < L.length → M2 76 p = tot (fun k => v k * mAp T L k p) k + v k * tot (fun a => wgC T L k p (a / tn T) (a % tn T)) a) → (∀ a, a ≠ 63 → a ≠ 76 → ∀ b, M2 a b = M a b) → G X Y 35 [vR 45, vI k, vI av] [] M2 P := by
        intro c2
        induction c2 with
        | zero =>
          intro a av M2 hac e1 hA2 hE2
          subst e1
          have han : a = nn := by omega
          have z0 := (keep M2 (fun a h1 h2 h3 b => hE2 a h1 h3 b)).2.1.1
          refine G_il2 hC dX10_waysOn_35 ?_
          refine G_al0 hC dX10_waysOn_36 ?_
          refine G_getI hC fl_X10_116 (by first | assumption | rfl) (by omega) dX10_waysOn_37 ?_
          rw [z0]
          refine G_al0 hC dX10_waysOn_40 ?_
          refine G_getI hC fl_X10_116 (by first | assumption | rfl) (by omega) dX10_waysOn_41 ?_
          rw [z0]
          refine G_imul hC dX10_waysOn_44 ?_
          rw [hnz]
          refine G_icmp_ge (tgt := 121) hC dX10_waysOn_45 (by decide) (by omega) (by omega) (fun c45 => ?_) (fun c45 => ?_)
          · refine G_inc1 hC dX10_waysOn_121 rfl ?_
            refine G_goto (tgt := 25) hC dX10_waysOn_124 (by decide) ?_
            exact ihK (k + 1) _ _ _ (by omega) (by omega) (fun p hp => by
                rw [hA2 p hp, han, ← hnn]; rfl) hE2
          · exact absurd c45 (by omega)
        | succ c2 ih =>
          intro a av M2 hac e1 hA2 hE2
          subst e1
          obtain ⟨hML2, hk2⟩ := keep M2 (fun a h1 h2 h3 b => hE2 a h1 h3 b)
          have z0 := hk2.1.1
          obtain ⟨f1, f2, f3, f4⟩ := hML2.2.2.1 k e hek
          have hia : a / tn T < tn T := Nat.div_lt_of_lt_mul (by omega)
          have hja : a % tn T < tn T := Nat.mod_lt _ t2
          have hdi : (a : Int) / (tn T : Int) = ((a / tn T : Nat) : Int) := rfl
          have hmo : (a : Int) % (tn T : Int) = ((a % tn T : Nat) : Int) := rfl
          have hts : ∀ p, tot (fun a => wgC T L k p (a / tn T) (a % tn T)) (a + 1) = tot (fun a => wgC T L k p (a / tn T) (a % tn T)) a + wgC T L k p (a / tn T) (a % tn T) := fun p => rfl
          generalize hgi : a / tn T = i at hia hdi hts
          generalize hgj : a % tn T = j at hja hmo hts
          by_cases hcan : can T (dgf e.1) i j
          · obtain ⟨x, hx, hxe⟩ := hcl e (List.mem_of_getElem? hek) i j hcan
            obtain ⟨p, hp⟩ := List.getElem?_of_mem hx
            have hpl := (List.getElem?_eq_some_iff.mp hp).1
            obtain ⟨lx, lx1, lx2⟩ := hFm x hx
            obtain ⟨ea1, ea2, ea3, ea4, ea5, ea6⟩ := KX_el hX lx1 lx2
            have hlo2 : lo8 (aft T (dgf e.1) i j) := aft_lo (dgf_lo _)
            have hce : cdF (aft T (dgf e.1) i j) (tn T) = cdF (dgf x.1) (tn T) := by rw [hxe]; exact (cd_enc t1 hlo2).symm
            have hlie2 : lieN (tn T) (aft T (dgf e.1) i j) := fun g hg => by have := ea1 g hg; rw [hxe, dgf_enc hlo2 (by omega)] at this; exact this
            refine G_il2 hC dX10_waysOn_35 ?_
            refine G_al0 hC dX10_waysOn_36 ?_
            refine G_getI hC fl_X10_116 (by first | assumption | rfl) (by omega) dX10_waysOn_37 ?_
            rw [z0]
            refine G_al0 hC dX10_waysOn_40 ?_
            refine G_getI hC fl_X10_116 (by first | assumption | rfl) (by omega) dX10_waysOn_41 ?_
            rw [z0]
            refine G_imul hC dX10_waysOn_44 ?_
            rw [hnz]
            refine G_icmp_ge (tgt := 121) hC dX10_waysOn_45 (by decide) (by omega) (by omega) (fun c45 => ?_) (fun c45 => ?_)
            · exact absurd c45 (by omega)
            · refine G_al0 hC dX10_waysOn_48 ?_
              refine G_al0 hC dX10_waysOn_49 ?_
              refine G_getR hC fl_X10_77 (by first | assumption | rfl) (by omega) (by first | assumption | exact hGr _ _ rfl) dX10_waysOn_50 ?_
              refine G_il1 hC dX10_waysOn_53 ?_
              refine G_ialoadN (n := k) hC (by first | assumption | rfl) (by omega) (by omega) (by omega) dX10_waysOn_54 ?_
              rw [f1]
              refine G_callVV hC (c_X10_loads hGr z0 t1 (by rw [el3]; exact hML2.1.2.2) el1 el2) mv_X10_263 (by first | assumption | rfl) (by omega) (by decide) rfl (by decide) dX10_waysOn_55 rfl (Nat.le_of_ble_eq_true rfl) rfl (fun M55 P55 h55 => ?_)
              obtain ⟨rfl, p1, p2⟩ := h55
              have hE3 : ∀ a, a ≠ 63 → a ≠ 76 → ∀ b, M55 a b = M a b := fun a h1 h2 b => by rw [p2 a (by unfold s63; exact h1)]; exact hE2 a h1 h2 b
              have hA3 : ∀ p, p < L.length → M55 76 p = tot (fun k => v k * mAp T L k p) k + v k * tot (fun a => wgC T L k p (a / tn T) (a % tn T)) a := fun p hp => by rw [p2 76 (by unfold s63; omega)]; exact hA2 p hp
              obtain ⟨hML3, hk3⟩ := keep M55 (fun a h1 h2 h3 b => hE3 a h1 h3 b)
              have y0 := hk3.1.1
              refine G_al0 hC dX10_waysOn_58 ?_
              refine G_il2 hC dX10_waysOn_59 ?_
              refine G_al0 hC dX10_waysOn_60 ?_
              refine G_getI hC fl_X10_116 (by first | assumption | rfl) (by omega) dX10_waysOn_61 ?_
              rw [y0]
              refine G_idiv hC dX10_waysOn_64 (by omega) (by omega) ?_
              rw [hdi]
              refine G_il2 hC dX10_waysOn_65 ?_
              refine G_al0 hC dX10_waysOn_66 ?_
              refine G_getI hC fl_X10_116 (by first | assumption | rfl) (by omega) dX10_waysOn_67 ?_
              rw [y0]
              refine G_irem hC dX10_waysOn_70 (by omega) (by omega) ?_
              rw [hmo]
              refine G_callVI hC (c_X10_mayAsk (i := i) (j := j) hGr hk3 p1 el1 hia hja) mv_X10_223 (by first | assumption | rfl) (by omega) (by decide) rfl (by decide) dX10_waysOn_71 rfl (Nat.le_of_ble_eq_true rfl) rfl (fun z71 M71 P71 h71 => ?_)
              obtain ⟨rfl, rfl, rfl⟩ := h71
              rw [canI_1 hcan]
              refine G_if_eq (tgt := 115) hC dX10_waysOn_74 (by decide) (by omega) (fun c74 => ?_) (fun c74 => ?_)
              · exact absurd c74 (by omega)
              · refine G_al0 hC dX10_waysOn_77 ?_
                refine G_il2 hC dX10_waysOn_78 ?_
                refine G_al0 hC dX10_waysOn_79 ?_
                refine G_getI hC fl_X10_116 (by first | assumption | rfl) (by omega) dX10_waysOn_80 ?_
                rw [y0]
                refine G_idiv hC dX10_waysOn_83 (by omega) (by omega) ?_
                rw [hdi]
                refine G_il2 hC dX10_waysOn_84 ?_
                refine G_al0 hC dX10_waysOn_85 ?_
                refine G_getI hC fl_X10_116 (by first | assumption | rfl) (by omega) dX10_waysOn_86 ?_
                rw [y0]
                refine G_irem hC dX10_waysOn_89 (by omega) (by omega) ?_
                rw [hmo]
                refine G_callVV hC (c_X10_asks (i := i) (j := j) hGr hk3 p1 el1 hia hja hcan.1) mv_X10_230 (by first | assumption | rfl) (by omega) (by decide) rfl (by decide) dX10_waysOn_90 rfl (Nat.le_of_ble_eq_true rfl) rfl (fun M90 P90 h90 => ?_)
                obtain ⟨rfl, a1, a2⟩ := h90
                have hE4 : ∀ a, a ≠ 63 → a ≠ 76 → ∀ b, M90 a b = M a b := fun a h1 h2 b => by rw [a2 a (by unfold s63; exact h1)]; exact hE3 a h1 h2 b
                have hA4 : ∀ p, p < L.length → M90 76 p = tot (fun k => v k * mAp T L k p) k + v k * tot (fun a => wgC T L k p (a / tn T) (a % tn T)) a := fun p hp => by rw [a2 76 (by unfold s63; omega)]; exact hA3 p hp
                obtain ⟨hML4, hk4⟩ := keep M90 (fun a h1 h2 h3 b => hE4 a h1 h3 b)
                have w0 := hk4.1.1
                have hvk : M90 75 k = v k := by rw [hE4 75 (by omega) (by omega)]; exact hv k (by omega)
                refine G_al0 hC dX10_waysOn_93 ?_
                refine G_getR hC fl_X10_103 (by first | assumption | rfl) (by omega) (by first | assumption | exact hGr _ _ rfl) dX10_waysOn_94 ?_
                refine G_al0 hC dX10_waysOn_97 ?_
                refine G_al0 hC dX10_waysOn_98 ?_
                refine G_callVI hC (c_X10_codeNow hGr w0 t1 a1 hlie2) mv_X10_253 (by first | assumption | rfl) (by omega) (by decide) rfl (by decide) dX10_waysOn_99 rfl (Nat.le_of_ble_eq_true rfl) rfl (fun z99 M99 P99 h99 => ?_)
                obtain ⟨rfl, rfl, rfl⟩ := h99
                rw [hce]
                refine G_callVI hC (c_X10_index1 hGr hML4 hp ea4) mv_X10_269 (by first | assumption | rfl) (by omega) (by decide) rfl (by decide) dX10_waysOn_102 rfl (Nat.le_of_ble_eq_true rfl) rfl (fun z102 M102 P102 h102 => ?_)
                obtain ⟨rfl, rfl, rfl⟩ := h102
                refine G_dup2 hC dX10_waysOn_105 rfl rfl ?_
                refine G_laloadN (n := p) hC (by first | assumption | rfl) (by omega) (by omega) (by omega) dX10_waysOn_106 ?_
                refine G_al0 hC dX10_waysOn_107 ?_
                refine G_getR hC fl_X10_99 (by first | assumption | rfl) (by omega) (by first | assumption | exact hGr _ _ rfl) dX10_waysOn_108 ?_
                refine G_il1 hC dX10_waysOn_111 ?_
                refine G_laloadN (n := k) hC (by first | assumption | rfl) (by omega) (by omega) (by omega) dX10_waysOn_112 ?_
                rw [hvk]
                refine G_ladd hC dX10_waysOn_113 ?_
                refine G_lastoreN (n := p) hC (by first | assumption | rfl) (by omega) (by omega) (by omega) dX10_waysOn_114 ?_
                refine G_inc2 hC dX10_waysOn_115 rfl ?_
                refine G_goto (tgt := 35) hC dX10_waysOn_118 (by decide) ?_
                exact ih (a + 1) _ _ (by omega) (by omega) (fun p' hp' => by
                    rw [hts p', Int.mul_add]
                    by_cases z : p' = p
                    · rw [z, upM_self, hA4 p hpl, wgC_1 hek hp ⟨hcan, hxe.symm⟩, Int.mul_one]; omega
                    · have hy := List.getElem?_eq_getElem hp'
                      rw [upM_nej z, hA4 p' hp', wgC_0 hek hy (fun y => z (hFd p' p _ _ hy hp (by rw [← y.2, hxe]))), Int.mul_zero]; omega) (fun a h1 h2 b => by rw [upM_ne h2]; exact hE4 a h1 h2 b)
          · have hno : ∀ p, p < L.length → wgC T L k p i j = 0 := fun p hp => wgC_0 hek (List.getElem?_eq_getElem hp) (fun z => hcan z.1)
            refine G_il2 hC dX10_waysOn_35 ?_
            refine G_al0 hC dX10_waysOn_36 ?_
            refine G_getI hC fl_X10_116 (by first | assumption | rfl) (by omega) dX10_waysOn_37 ?_
            rw [z0]
            refine G_al0 hC dX10_waysOn_40 ?_
            refine G_getI hC fl_X10_116 (by first | assumption | rfl) (by omega) dX10_waysOn_41 ?_
            rw [z0]
            refine G_imul hC dX10_waysOn_44 ?_
            rw [hnz]
            refine G_icmp_ge (tgt := 121) hC dX10_waysOn_45 (by decide) (by omega) (by omega) (fun c45 => ?_) (fun c45 => ?_)
            · exact absurd c45 (by omega)
            · refine G_al0 hC dX10_waysOn_48 ?_
              refine G_al0 hC dX10_waysOn_49 ?_
              refine G_getR hC fl_X10_77 (by first | assumption | rfl) (by omega) (by first | assumption | exact hGr _ _ rfl) dX10_waysOn_50 ?_
              refine G_il1 hC dX10_waysOn_53 ?_
              refine G_ialoadN (n := k) hC (by first | assumption | rfl) (by omega) (by omega) (by omega) dX10_waysOn_54 ?_
              rw [f1]
              refine G_callVV hC (c_X10_loads hGr z0 t1 (by rw [el3]; exact hML2.1.2.2) el1 el2) mv_X10_263 (by first | assumption | rfl) (by omega) (by decide) rfl (by decide) dX10_waysOn_55 rfl (Nat.le_of_ble_eq_true rfl) rfl (fun M55 P55 h55 => ?_)
              obtain ⟨rfl, p1, p2⟩ := h55
              have hE3 : ∀ a, a ≠ 63 → a ≠ 76 → ∀ b, M55 a b = M a b := fun a h1 h2 b => by rw [p2 a (by unfold s63; exact h1)]; exact hE2 a h1 h2 b
              have hA3 : ∀ p, p < L.length → M55 76 p = tot (fun k => v k * mAp T L k p) k + v k * tot (fun a => wgC T L k p (a / tn T) (a % tn T)) a := fun p hp => by rw [p2 76 (by unfold s63; omega)]; exact hA2 p hp
              obtain ⟨hML3, hk3⟩ := keep M55 (fun a h1 h2 h3 b => hE3 a h1 h3 b)
              have y0 := hk3.1.1
              refine G_al0 hC dX10_waysOn_58 ?_
              refine G_il2 hC dX10_waysOn_59 ?_
              refine G_al0 hC dX10_waysOn_60 ?_
              refine G_getI hC fl_X10_116 (by first | assumption | rfl) (by omega) dX10_waysOn_61 ?_
              rw [y0]
              refine G_idiv hC dX10_waysOn_64 (by omega) (by omega) ?_
              rw [hdi]
              refine G_il2 hC dX10_waysOn_65 ?_
              refine G_al0 hC dX10_waysOn_66 ?_
              refine G_getI hC fl_X10_116 (by first | assumption | rfl) (by omega) dX10_waysOn_67 ?_
              rw [y0]
              refine G_irem hC dX10_waysOn_70 (by omega) (by omega) ?_
              rw [hmo]
              refine G_callVI hC (c_X10_mayAsk (i := i) (j := j) hGr hk3 p1 el1 hia hja) mv_X10_223 (by first | assumption | rfl) (by omega) (by decide) rfl (by decide) dX10_waysOn_71 rfl (Nat.le_of_ble_eq_true rfl) rfl (fun z71 M71 P71 h71 => ?_)
              obtain ⟨rfl, rfl, rfl⟩ := h71
              rw [canI_0 hcan]
              refine G_if_eq (tgt := 115) hC dX10_waysOn_74 (by decide) (by omega) (fun c74 => ?_) (fun c74 => ?_)
              · refine G_inc2 hC dX10_waysOn_115 rfl ?_
                refine G_goto (tgt := 35) hC dX10_waysOn_118 (by decide) ?_
                exact ih (a + 1) _ _ (by omega) (by omega) (fun p' hp' => by
                    rw [hts p', Int.mul_add, hno p' hp', Int.mul_zero, hA3 p' hp']; omega) hE3
              · exact absurd rfl c74
      refine G_il1 hC dX10_waysOn_25 ?_
      refine G_al0 hC dX10_waysOn_26 ?_
      refine G_getI hC fl_X10_250 (by first | assumption | rfl) (by omega) dX10_waysOn_27 ?_
      rw [l1]
      refine G_icmp_ge (tgt := 127) hC dX10_waysOn_30 (by decide) (by omega) (by omega) (fun c30 => ?_) (fun c30 => ?_)
      · exact absurd c30 (by omega)
      · refine G_iconst hC dX10_waysOn_33 ?_
        refine G_is2 hC dX10_waysOn_34 rfl ?_
        exact h35 nn 0 _ _ (by omega) rfl (fun p hp => by
            rw [hA p hp]
            show _ = _ + v k * 0
            rw [Int.mul_zero]; omega) hE
  have h2 : ∀ (c k : Nat) (kv : Int) (x2 : AV) (M1 : Mem), k + c = L.length → kv = (k : Int) → (∀ p, p < k → M1 76 p = 0) → (∀ a, a ≠ 76 → ∀ b, M1 a b = M a b) → G X Y 2 [vR 45, vI kv, x2] [] M1 P := by
    intro c
    induction c with
    | zero =>
      intro k kv x2 M1 hkc e1 hA hE
      subst e1
      have l1 := (keep M1 (fun a h1 h2 h3 b => hE a h3 b)).1.1.1
      refine G_il1 hC dX10_waysOn_2 ?_
      refine G_al0 hC dX10_waysOn_3 ?_
      refine G_getI hC fl_X10_250 (by first | assumption | rfl) (by omega) dX10_waysOn_4 ?_
      rw [l1]
      refine G_icmp_ge (tgt := 23) hC dX10_waysOn_7 (by decide) (by omega) (by omega) (fun c7 => ?_) (fun c7 => ?_)
      · refine G_iconst hC dX10_waysOn_23 ?_
        refine G_is1 hC dX10_waysOn_24 rfl ?_
        exact h25 L.length 0 _ _ _ (by omega) rfl (fun p hp => hA p (by omega)) (fun a h1 h2 b => hE a h2 b)
      · exact absurd c7 (by omega)
    | succ c ih =>
      intro k kv x2 M1 hkc e1 hA hE
      subst e1
      have l1 := (keep M1 (fun a h1 h2 h3 b => hE a h3 b)).1.1.1
      refine G_il1 hC dX10_waysOn_2 ?_
      refine G_al0 hC dX10_waysOn_3 ?_
      refine G_getI hC fl_X10_250 (by first | assumption | rfl) (by omega) dX10_waysOn_4 ?_
      rw [l1]
      refine G_icmp_ge (tgt := 23) hC dX10_waysOn_7 (by decide) (by omega) (by omega) (fun c7 => ?_) (fun c7 => ?_)
      · exact absurd c7 (by omega)
      · refine G_al0 hC dX10_waysOn_10 ?_
        refine G_getR hC fl_X10_103 (by first | assumption | rfl) (by omega) (by first | assumption | exact hGr _ _ rfl) dX10_waysOn_11 ?_
        refine G_il1 hC dX10_waysOn_14 ?_
        refine G_lconst (z := 0) hC dX10_waysOn_15 (by decide) ?_
        refine G_lastoreN (n := k) hC (by first | assumption | rfl) (by omega) (by omega) (by omega) dX10_waysOn_16 ?_
        refine G_inc1 hC dX10_waysOn_17 rfl ?_
        refine G_goto (tgt := 2) hC dX10_waysOn_20 (by decide) ?_
        exact ih (k + 1) _ _ _ (by omega) (by omega) (fun p hp => by
            by_cases z : p = k
            · rw [z, upM_self]
            · rw [upM_nej z]; exact hA p (by omega)) (fun a h b => by rw [upM_ne h]; exact hE a h b)
  refine G_iconst hC dX10_waysOn_0 ?_
  refine G_is1 hC dX10_waysOn_1 rfl ?_
  exact h2 L.length 0 _ _ _ (by omega) rfl (fun p hp => by omega) (fun a h b => rfl)
set_option maxHeartbeats 4000000 in
set_option maxRecDepth 100000 in
theorem c_X10_went {l : Launch} {c : Nat} {S : AS} {N : Nat} {lq : Nat → Nat} {i : Int} {M : Mem} {P : PMem} (hS : SOK c S) (hK : TOK S) (hI : MIv c M P S) (hLk : lkR S N lq) (hc5 : c ≤ 520) (hi : i32r i)  : CtL l yX10_went cX10_went 4 (some .long) 4 101 77 [vR 45, vI i] M P (mR (c + 1) M P S (wentS S i)) := by
  refine Ct_of (own := RX10) (L := [vR 45, vI i, vX 1, vX 1]) (by decide) rfl rfl (Nat.le_of_ble_eq_true rfl) (fun X Y hl hC hQ => ?_)
  obtain ⟨hGr, ⟨⟨g0, g1, g2, g3, g4⟩, g5⟩, ⟨g6, g7⟩, g8, g9, ⟨g10, g11⟩, g12⟩ := id hI
  obtain ⟨s1, ⟨s2, s3, s4, s5, s6, s7, s8⟩, ⟨s9, s10, s11, s12⟩, s13, s14, s15, s16, s17, s18⟩ := id hS
  obtain ⟨m1, m2, m3, m4⟩ := id s14
  have hX := lk_KX hS hLk (T' := sT S) rfl
  have hlo := m1.lo
  have hlo0 : lo8 (sF0 S) := fun i => by rcases s9 i with q | q <;> omega
  obtain ⟨l0, hl0, hq⟩ := lk_at (c := c) hLk hlo0 ⟨fun i h1 _ => s10 i h1, fun _ => rfl⟩
  obtain ⟨l1, hl1, hq1⟩ := lk_at (c := c) hLk hlo m2
  obtain ⟨el1, el2, el3, el4, el5, el6⟩ := KX_el hX hl1 hq1
  have hcdn : cdF (sNow S).1 (tn (sT S)) = cdF (dgf (enc (sNow S).1)) (tn (sT S)) := (cd_enc s7 hlo).symm
  obtain ⟨st, hst⟩ : ∃ st : Nat, M 45 37 = (st : Int) := ⟨(M 45 37).toNat, by have := g12.1; omega⟩
  have hstc : st ≤ 16 * c := by have := g12.2.1; omega
  unfold i32r at *
  by_cases hy : 0 ≤ i ∧ i ≤ 8
  · obtain ⟨n, rfl⟩ : ∃ n : Nat, i = (n : Int) := ⟨i.toNat, by omega⟩
    have hn8 : n ≤ 8 := by omega
    refine G_il1 hC dX10_went_0 ?_
    refine G_iconst hC dX10_went_1 ?_
    refine G_bipush hC dX10_went_2 (by decide) ?_
    refine G_callSI hC (c_in1 (by unfold i32r; omega) (by unfold i32r; omega) (by unfold i32r; omega) hy) ms_X10_119 (by decide) rfl (by decide) dX10_went_4 rfl (Nat.le_of_ble_eq_true rfl) rfl (fun z4 M4 P4 h4 => ?_)
    obtain ⟨rfl, rfl, rfl⟩ := h4
    refine G_if_ne (tgt := 14) hC dX10_went_7 (by decide) (by omega) (fun c7 => ?_) (fun c7 => ?_)
    · refine G_al0 hC dX10_went_14 ?_
      refine G_callVV hC (c_X10_sits hGr g0 s7) mv_X10_220 (by first | assumption | rfl) (by omega) (by decide) rfl (by decide) dX10_went_15 rfl (Nat.le_of_ble_eq_true rfl) rfl (fun M15 P15 h15 => ?_)
      obtain ⟨rfl, v0⟩ := h15
      obtain ⟨v1, v2⟩ := si_R hS hK hI v0
      obtain ⟨v3, v4⟩ := siI_M hI v0
      have v37 : M15 45 37 = (st : Int) := by rw [v0.2.2 45 (by omega)]; exact hst
      have n0 : M15 45 0 = (tn (sT S) : Int) := v1.1.1
      have h88 : ∀ (L : List BE) (c2 e : Nat) (ev : Int) (M2 : Mem), L = FB (sT S) (lq l0) → MLi M2 (tn (sT S)) (st + 1) (sF0 S) L → e + c2 = n → ev = (e : Int) → (∀ k, k < L.length → M2 75 k = wvF (sT S) L e k) → (∀ a, a ≠ 45 → a ≠ 63 → ¬ (67 ≤ a ∧ a ≤ 70) → a ≠ 75 → a ≠ 76 → ∀ b, M2 a b = M15 a b) → (∀ b, b ≠ 37 → b ≠ 41 → b ≠ 42 → M2 45 b = M15 45 b) → G X Y 88 [vR 45, vI n, vI (cdF (sNow S).1 (tn (sT S))), vI ev] [] M2 P := by
        intro L c2
        induction c2 with
        | zero =>
          intro e ev M2 hLe hML he e1 hv hE hE45
          subst e1
          have hen : e = n := by omega
          subst hen
          have w1 : MIv (c + 1) M2 P S := MIv_x v3 (fun a h1 h2 b => hE a (by omega) (by omega) (by omega) (by omega) (by omega) b) (fun b hb => hE45 b (by omega) (by omega) (by omega)) (qMk_l hML (by omega))
          have hex : eqx mdX M M2 := v4.trans (fun a ha b => by unfold mdX at ha; exact hE a (by omega) (by omega) (by omega) (by omega) (by omega) b)
          have hws : wentS S (e : Int) = match fstN (fun x => x.1 = enc (sNow S).1) L with
              | none => 0
              | some p => wvF (sT S) L e p.1 := by
            unfold wentS
            rw [if_pos hy, hLe, hq, Int.toNat_natCast]
          by_cases z : ∃ x ∈ L, x.1 = enc (sNow S).1
          · obtain ⟨x, hx, hxe⟩ := z
            obtain ⟨k, f, hf⟩ := FST_ex (Pd := fun x => x.1 = enc (sNow S).1) L x hx hxe
            rw [fstN_1 hf] at hws
            have hws2 : wentS S (e : Int) = wvF (sT S) L e k := hws
            have hkl := (List.getElem?_eq_some_iff.mp hf.1).1
            have hl720 := hML.2.1.1
            have hcd2 : cdF (sNow S).1 (tn (sT S)) = cdF (dgf f.1) (tn (sT S)) := by rw [hf.2.1]; exact hcdn
            refine G_il3 hC dX10_went_88 ?_
            refine G_il1 hC dX10_went_89 ?_
            refine G_icmp_ge (tgt := 103) hC dX10_went_90 (by decide) (by omega) (by omega) (fun c90 => ?_) (fun c90 => ?_)
            · refine G_al0 hC dX10_went_103 ?_
              refine G_il2 hC dX10_went_104 ?_
              rw [hcd2]
              refine G_callVI hC (c_X10_index1 hGr hML hf.1 (by rw [hf.2.1]; exact el4)) mv_X10_269 (by first | assumption | rfl) (by omega) (by decide) rfl (by decide) dX10_went_105 rfl (Nat.le_of_ble_eq_true rfl) rfl (fun z105 M105 P105 h105 => ?_)
              obtain ⟨rfl, rfl, rfl⟩ := h105
              refine G_if_ge (tgt := 115) hC dX10_went_108 (by decide) (by omega) (fun c108 => ?_) (fun c108 => ?_)
              · refine G_al0 hC dX10_went_115 ?_
                refine G_getR hC fl_X10_99 (by first | assumption | rfl) (by omega) (by first | assumption | exact hGr _ _ rfl) dX10_went_116 ?_
                refine G_al0 hC dX10_went_119 ?_
                refine G_il2 hC dX10_went_120 ?_
                first | rw [hcd2] | skip
                refine G_callVI hC (c_X10_index1 hGr hML hf.1 (by rw [hf.2.1]; exact el4)) mv_X10_269 (by first | assumption | rfl) (by omega) (by decide) rfl (by decide) dX10_went_121 rfl (Nat.le_of_ble_eq_true rfl) rfl (fun z121 M121 P121 h121 => ?_)
                obtain ⟨rfl, rfl, rfl⟩ := h121
                refine G_laloadN (n := k) hC (by first | assumption | rfl) (by omega) (by omega) (by omega) dX10_went_124 ?_
                rw [hv k hkl]
                exact G_lret hC hQ dX10_went_125 ⟨_, rfl, rfl, hws2.symm, w1, hex⟩
              · exact absurd c108 (by omega)
            · exact absurd c90 (by omega)
          · rw [fstN_0 (fun x hx hxe => z ⟨x, hx, hxe⟩)] at hws
            have hno : ∀ x ∈ L, cdF (dgf x.1) (tn (sT S)) ≠ cdF (sNow S).1 (tn (sT S)) := fun x hx hc => by
              obtain ⟨lx, lx1, lx2⟩ := (FB_iv hX hl0).2.1 x (by rw [← hLe]; exact hx)
              rw [hcdn, ← hq1, ← lx2] at hc
              exact z ⟨x, hx, by rw [← lx2, KX_inj hX lx1 hl1 hc, hq1]⟩
            refine G_il3 hC dX10_went_88 ?_
            refine G_il1 hC dX10_went_89 ?_
            refine G_icmp_ge (tgt := 103) hC dX10_went_90 (by decide) (by omega) (by omega) (fun c90 => ?_) (fun c90 => ?_)
            · refine G_al0 hC dX10_went_103 ?_
              refine G_il2 hC dX10_went_104 ?_
              refine G_callVI hC (c_X10_index0 hGr hML (by rw [hcdn]; exact el4) hno) mv_X10_269 (by first | assumption | rfl) (by omega) (by decide) rfl (by decide) dX10_went_105 rfl (Nat.le_of_ble_eq_true rfl) rfl (fun z105 M105 P105 h105 => ?_)
              obtain ⟨rfl, rfl, rfl⟩ := h105
              refine G_if_ge (tgt := 115) hC dX10_went_108 (by decide) (by omega) (fun c108 => ?_) (fun c108 => ?_)
              · exact absurd c108 (by omega)
              · refine G_lconst (z := 0) hC dX10_went_111 (by decide) ?_
                refine G_goto (tgt := 125) hC dX10_went_112 (by decide) ?_
                exact G_lret hC hQ dX10_went_125 ⟨_, rfl, rfl, hws.symm, w1, hex⟩
            · exact absurd c90 (by omega)
        | succ c2 ih =>
          intro e ev M2 hLe hML he e1 hv hE hE45
          subst e1
          obtain ⟨b1, b2, -⟩ := FB_iv hX hl0
          have hk2 : SkR M2 (sT S) (sW S) := SkR_x v1 (fun b hb => hE45 b (by omega) (by omega) (by omega)) (fun a h1 h2 b => hE a (by omega) (by omega) (by omega) (by omega) (by omega) b)
          refine G_il3 hC dX10_went_88 ?_
          refine G_il1 hC dX10_went_89 ?_
          refine G_icmp_ge (tgt := 103) hC dX10_went_90 (by decide) (by omega) (by omega) (fun c90 => ?_) (fun c90 => ?_)
          · exact absurd c90 (by omega)
          · refine G_al0 hC dX10_went_93 ?_
            refine G_callVV hC (c_X10_waysOn hGr hk2 hX hML (by rw [hLe]; exact b1) (by rw [hLe]; exact b2) (FB_clo hX hl0 hLe) hv) mv_X10_304 (by first | assumption | rfl) (by omega) (by decide) rfl (by decide) dX10_went_94 rfl (Nat.le_of_ble_eq_true rfl) rfl (fun M94 P94 h94 => ?_)
            obtain ⟨rfl, r1, r2⟩ := h94
            refine G_inc3 hC dX10_went_97 rfl ?_
            refine G_goto (tgt := 88) hC dX10_went_100 (by decide) ?_
            exact ih (e + 1) _ _ hLe (MLi_x hML (fun b hb => r2 45 (by omega) (by omega) (by omega) b) (fun a h1 h2 b => r2 a (by omega) (by omega) (by omega) b)) (by omega) (by omega) r1 (fun a h1 h2 h3 h4 h5 b => by rw [r2 a h2 h4 h5]; exact hE a h1 h2 h3 h4 h5 b) (fun b h1 h2 h3 => by rw [r2 45 (by omega) (by omega) (by omega)]; exact hE45 b h1 h2 h3)
      have h57 : ∀ (L : List BE) (c2 k : Nat) (kv : Int) (M2 : Mem), L = FB (sT S) (lq l0) → MLi M2 (tn (sT S)) (st + 1) (sF0 S) L → k + c2 = L.length → kv = (k : Int) → (∀ p, p < k → M2 75 p = wvF (sT S) L 0 p) → (∀ a, a ≠ 45 → a ≠ 63 → ¬ (67 ≤ a ∧ a ≤ 70) → a ≠ 75 → a ≠ 76 → ∀ b, M2 a b = M15 a b) → (∀ b, b ≠ 37 → b ≠ 41 → b ≠ 42 → M2 45 b = M15 45 b) → G X Y 57 [vR 45, vI n, vI (cdF (sNow S).1 (tn (sT S))), vI kv] [] M2 P := by
        intro L c2
        induction c2 with
        | zero =>
          intro k kv M2 hLe hML hkc e1 hv hE hE45
          subst e1
          have q1 := hML.1.1
          have hl720 := hML.2.1.1
          refine G_il3 hC dX10_went_57 ?_
          refine G_al0 hC dX10_went_58 ?_
          refine G_getI hC fl_X10_250 (by first | assumption | rfl) (by omega) dX10_went_59 ?_
          rw [q1]
          refine G_icmp_ge (tgt := 86) hC dX10_went_62 (by decide) (by omega) (by omega) (fun c62 => ?_) (fun c62 => ?_)
          · refine G_iconst hC dX10_went_86 ?_
            refine G_is3 hC dX10_went_87 rfl ?_
            exact h88 L n 0 _ _ hLe hML (by omega) rfl (fun p hp => hv p (by omega)) hE hE45
          · exact absurd c62 (by omega)
        | succ c2 ih =>
          intro k kv M2 hLe hML hkc e1 hv hE hE45
          subst e1
          have q1 := hML.1.1
          have hl720 := hML.2.1.1
          have hnx : ∀ u : Int, u = wvF (sT S) L 0 k → G X Y 80 [vR 45, vI n, vI (cdF (sNow S).1 (tn (sT S))), vI (k : Int)] [] (upM M2 75 k u) P := fun u hu => by
            refine G_inc3 hC dX10_went_80 rfl ?_
            refine G_goto (tgt := 57) hC dX10_went_83 (by decide) ?_
            exact ih (k + 1) _ _ hLe (MLi_x hML (fun b hb => upM_ne (by omega) b) (fun a h1 h2 b => upM_ne (by omega) b)) (by omega) (by omega) (fun p hp => by
                by_cases z : p = k
                · rw [z, upM_self]; exact hu
                · rw [upM_nej z]; exact hv p (by omega)) (fun a h1 h2 h3 h4 h5 b => by rw [upM_ne h4]; exact hE a h1 h2 h3 h4 h5 b) (fun b h1 h2 h3 => by rw [upM_ne (by omega)]; exact hE45 b h1 h2 h3)
          refine G_il3 hC dX10_went_57 ?_
          refine G_al0 hC dX10_went_58 ?_
          refine G_getI hC fl_X10_250 (by first | assumption | rfl) (by omega) dX10_went_59 ?_
          rw [q1]
          refine G_icmp_ge (tgt := 86) hC dX10_went_62 (by decide) (by omega) (by omega) (fun c62 => ?_) (fun c62 => ?_)
          · exact absurd c62 (by omega)
          · refine G_al0 hC dX10_went_65 ?_
            refine G_getR hC fl_X10_99 (by first | assumption | rfl) (by omega) (by first | assumption | exact hGr _ _ rfl) dX10_went_66 ?_
            refine G_il3 hC dX10_went_69 ?_
            refine G_il3 hC dX10_went_70 ?_
            refine G_if_ne (tgt := 78) hC dX10_went_71 (by decide) (by omega) (fun c71 => ?_) (fun c71 => ?_)
            · refine G_lconst (z := 0) hC dX10_went_78 (by decide) ?_
              refine G_lastoreN (n := k) hC (by first | assumption | rfl) (by omega) (by omega) (by omega) dX10_went_79 ?_
              first
                | exact hnx _ (by show (0 : Int) = if k = 0 then 1 else 0; rw [if_neg (by omega)])
                | exact hnx _ (by show (1 : Int) = if k = 0 then 1 else 0; rw [if_pos (by omega)])
            · refine G_lconst (z := 1) hC dX10_went_74 (by decide) ?_
              refine G_goto (tgt := 79) hC dX10_went_75 (by decide) ?_
              refine G_lastoreN (n := k) hC (by first | assumption | rfl) (by omega) (by omega) (by omega) dX10_went_79 ?_
              first
                | exact hnx _ (by show (0 : Int) = if k = 0 then 1 else 0; rw [if_neg (by omega)])
                | exact hnx _ (by show (1 : Int) = if k = 0 then 1 else 0; rw [if_pos (by omega)])
      have h25 : ∀ (c2 k : Nat) (kv : Int) (M2 : Mem), k + c2 = tn (sT S) → kv = (k : Int) → (∀ g, g < k → M2 63 g = nv (sF0 S g)) → eqx s63 M15 M2 → G X Y 25 [vR 45, vI n, vI (cdF (sNow S).1 (tn (sT S))), vI kv] [] M2 P := by
        intro c2
        induction c2 with
        | zero =>
          intro k kv M2 hkc e1 hA hE
          subst e1
          have hkn : k = tn (sT S) := by omega
          rw [hkn] at hA
          have z0 : M2 45 0 = (tn (sT S) : Int) := by rw [hE 45 (by unfold s63; omega)]; exact n0
          have hk2 := SkR_l v1 (lK_63 hE)
          have hm2 : qMk c M2 := qMk_x v3.2.2.2.2.2.2 (hE 45 (by unfold s63; omega) 37) (hE 67 (by unfold s63; omega))
          have h372 : M2 45 37 = (st : Int) := by rw [hE 45 (by unfold s63; omega)]; exact v37
          refine G_il3 hC dX10_went_25 ?_
          refine G_al0 hC dX10_went_26 ?_
          refine G_getI hC fl_X10_116 (by first | assumption | rfl) (by omega) dX10_went_27 ?_
          rw [z0]
          refine G_icmp_ge (tgt := 51) hC dX10_went_30 (by decide) (by omega) (by omega) (fun c30 => ?_) (fun c30 => ?_)
          · refine G_al0 hC dX10_went_51 ?_
            refine G_callVV hC (c_X10_findAll hGr hk2 hX hA hlo0 hl0 hq hm2 h372 (by omega)) mv_X10_272 (by first | assumption | rfl) (by omega) (by decide) rfl (by decide) dX10_went_52 rfl (Nat.le_of_ble_eq_true rfl) rfl (fun M52 P52 h52 => ?_)
            obtain ⟨rfl, fa1, fa2⟩ := h52
            rw [← hq] at fa1
            refine G_iconst hC dX10_went_55 ?_
            refine G_is3 hC dX10_went_56 rfl ?_
            exact h57 _ (FB (sT S) (lq l0)).length 0 _ _ rfl fa1 (by omega) rfl (fun p hp => by omega) (fun a h1 h2 h3 h4 h5 b => by rw [fa2.1 a h1 h2 h3]; exact hE a h2 b) (fun b h1 h2 h3 => by rw [fa2.2 b h1 h2 h3]; exact hE 45 (by unfold s63; omega) b)
          · exact absurd c30 (by omega)
        | succ c2 ih =>
          intro k kv M2 hkc e1 hA hE
          subst e1
          have z0 : M2 45 0 = (tn (sT S) : Int) := by rw [hE 45 (by unfold s63; omega)]; exact n0
          have zl : M2 49 k = nv (sF0 S k) := by rw [hE 49 (by unfold s63; omega)]; exact (v3.2.1.2 k (by omega)).2.2.1
          refine G_il3 hC dX10_went_25 ?_
          refine G_al0 hC dX10_went_26 ?_
          refine G_getI hC fl_X10_116 (by first | assumption | rfl) (by omega) dX10_went_27 ?_
          rw [z0]
          refine G_icmp_ge (tgt := 51) hC dX10_went_30 (by decide) (by omega) (by omega) (fun c30 => ?_) (fun c30 => ?_)
          · exact absurd c30 (by omega)
          · refine G_al0 hC dX10_went_33 ?_
            refine G_getR hC fl_X10_61 (by first | assumption | rfl) (by omega) (by first | assumption | exact hGr _ _ rfl) dX10_went_34 ?_
            refine G_il3 hC dX10_went_37 ?_
            refine G_al0 hC dX10_went_38 ?_
            refine G_getR hC fl_X10_19 (by first | assumption | rfl) (by omega) (by first | assumption | exact hGr _ _ rfl) dX10_went_39 ?_
            refine G_il3 hC dX10_went_42 ?_
            refine G_ialoadN (n := k) hC (by first | assumption | rfl) (by omega) (by omega) (by omega) dX10_went_43 ?_
            rw [zl]
            refine G_iastoreN (n := k) hC (by first | assumption | rfl) (by omega) (by omega) (by omega) dX10_went_44 ?_
            refine G_inc3 hC dX10_went_45 rfl ?_
            refine G_goto (tgt := 25) hC dX10_went_48 (by decide) ?_
            exact ih (k + 1) _ _ (by omega) (by omega) (fun g hg => by
                by_cases z : g = k
                · rw [z, upM_self]
                · rw [upM_nej z]; exact hA g (by omega)) (hE.trans s63_up)
      refine G_al0 hC dX10_went_18 ?_
      refine G_callVI hC (c_X10_codeNow hGr n0 s7 v2 (lieOK_N m1)) mv_X10_253 (by first | assumption | rfl) (by omega) (by decide) rfl (by decide) dX10_went_19 rfl (Nat.le_of_ble_eq_true rfl) rfl (fun z19 M19 P19 h19 => ?_)
      obtain ⟨rfl, rfl, rfl⟩ := h19
      refine G_is2 hC dX10_went_22 rfl ?_
      refine G_iconst hC dX10_went_23 ?_
      refine G_is3 hC dX10_went_24 rfl ?_
      exact h25 (tn (sT S)) 0 _ _ (by omega) rfl (fun g hg => by omega) eqx.refl
    · exact absurd c7 (by omega)
  · refine G_il1 hC dX10_went_0 ?_
    refine G_iconst hC dX10_went_1 ?_
    refine G_bipush hC dX10_went_2 (by decide) ?_
    refine G_callSI hC (c_in0 (by unfold i32r; omega) (by unfold i32r; omega) (by unfold i32r; omega) hy) ms_X10_119 (by decide) rfl (by decide) dX10_went_4 rfl (Nat.le_of_ble_eq_true rfl) rfl (fun z4 M4 P4 h4 => ?_)
    obtain ⟨rfl, rfl, rfl⟩ := h4
    refine G_if_ne (tgt := 14) hC dX10_went_7 (by decide) (by omega) (fun c7 => ?_) (fun c7 => ?_)
    · exact absurd rfl c7
    · refine G_ldc2 (z := -1) hC kl_X10_302 (by decide) dX10_went_10 ?_
      exact G_lret hC hQ dX10_went_13 ⟨_, rfl, rfl, by unfold wentS; rw [if_neg hy], hI.mono (by omega), eqx.refl⟩
