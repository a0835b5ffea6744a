/-! searches -/
theorem php : ∀ (N m : Nat) (g : Nat → Nat), (∀ i, i < m → g i < N) → (∀ i j, i < m → j < m → g i = g j → i = j) → m ≤ N
  | 0, m, g, h, _ => by
    rcases Nat.eq_zero_or_pos m with e | e
    · omega
    · exact absurd (h 0 e) (by omega)
  | N + 1, m, g, h, inj => by
    by_cases hx : ∃ i, i < m ∧ g i = N
    · obtain ⟨i0, hi0, e0⟩ := hx
      have := php N (m - 1) (fun i => if i = i0 then g (m - 1) else g i) (fun i hi => by
        try dsimp only
        split
        · rename_i hii
          have h1 := h (m - 1) (by omega)
          have h2 : g (m - 1) ≠ N := fun q => by have := inj (m - 1) i0 (by omega) hi0 (by rw [q, e0]); omega
          omega
        · rename_i hii
          have h1 := h i (by omega)
          have h2 : g i ≠ N := fun q => hii (inj i i0 (by omega) hi0 (by rw [q, e0]))
          omega) (fun i j hi hj e => by
        try dsimp only at e
        split at e <;> split at e
        · omega
        · have := inj (m - 1) j (by omega) (by omega) e; omega
        · have := inj i (m - 1) (by omega) (by omega) e; omega
        · exact inj i j (by omega) (by omega) e)
      omega
    · have := php N m g (fun i hi => by
        have h1 := h i hi
        have h2 : g i ≠ N := fun q => hx ⟨i, hi, q⟩
        omega) inj
      omega
def eqx (S : Nat → Prop) (M M' : Mem) : Prop := ∀ a, ¬ S a → ∀ b, M' a b = M a b
theorem eqx.refl {S : Nat → Prop} {M : Mem} : eqx S M M := fun _ _ _ => rfl
theorem eqx.trans {S : Nat → Prop} {M M' M'' : Mem} (h : eqx S M M') (h2 : eqx S M' M'') : eqx S M M'' := fun a ha b => (h2 a ha b).trans (h a ha b)
theorem eqx.mono {S S' : Nat → Prop} {M M' : Mem} (h : eqx S M M') (hs : ∀ a, S a → S' a) : eqx S' M M' := fun a ha b => h a (fun q => ha (hs a q)) b
theorem eqx_up {S : Nat → Prop} {M : Mem} {k j : Nat} {v : Int} (h : S k) : eqx S M (upM M k j v) := fun a ha b => upM_ne (fun e : a = k => ha (by rw [e]; exact h)) b
theorem slF_congr {M M' : Mem} {q : Nat} (h13 : ∀ b, M' 13 b = M 13 b) (h14 : ∀ b, M' 14 b = M 14 b) : ∀ k s, slF M' q k s = slF M q k s
  | 0, s => rfl
  | k + 1, s => by unfold slF; rw [h14, h13, slF_congr h13 h14 k]
theorem numO_congr {M M' : Mem} {q : Nat} (h13 : ∀ b, M' 13 b = M 13 b) (h14 : ∀ b, M' 14 b = M 14 b) : numO M' q = numO M q := by
  unfold numO sltO; rw [slF_congr h13 h14, h14]
theorem mvN_congr {M M' : Mem} {T : TB} {q i j : Nat} (h13 : ∀ b, M' 13 b = M 13 b) (h14 : ∀ b, M' 14 b = M 14 b) : mvN M' T q i j = mvN M T q i j := by
  unfold mvN; rw [numO_congr h13 h14]
theorem TabR_congr {M M' : Mem} {t : Nat} {T : TB} (h : TabR M t T) (h0 : ∀ b, M' t b = M t b) (h1 : ∀ b, M' (t + 1) b = M (t + 1) b) (h3 : ∀ b, M' (t + 3) b = M (t + 3) b) : TabR M' t T := by
  obtain ⟨a1, a2, a3, a4, a5, a6, a7⟩ := h
  exact ⟨by rw [h0]; exact a1, a2, a3, by rw [h0]; exact a4, a5, fun g hg => by rw [h1]; exact a6 g hg, fun g d hg hd => by rw [h3]; exact a7 g d hg hd⟩
theorem LyB_congr {M M' : Mem} (h : LyB M) (h12 : ∀ b, M' 12 b = M 12 b) (h13 : ∀ b, M' 13 b = M 13 b) (h14 : ∀ b, M' 14 b = M 14 b) : LyB M' := by
  obtain ⟨a1, a2, a3, a4⟩ := h
  exact ⟨fun k hk => by rw [h13]; exact a1 k hk, fun s hs => by rw [h14]; exact a2 s hs, by rw [h12]; exact a3, by rw [h12]; exact a4⟩
/-- the layings, numbered -/
def LyI (M : Mem) (N : Nat) (lq : Nat → Nat) : Prop := LyB M ∧ M 12 0 = (N : Int) ∧ N ≤ 720 ∧ (∀ l, l < N → M 13 l = (lq l : Int) ∧ numO M (lq l) = (l : Int)) ∧ (∀ q, q < 262144 → (∀ l, l < N → lq l ≠ q) → numO M q = 1023)
theorem LyI_congr {M M' : Mem} {N : Nat} {lq : Nat → Nat} (h : LyI M N lq) (h12 : ∀ b, M' 12 b = M 12 b) (h13 : ∀ b, M' 13 b = M 13 b) (h14 : ∀ b, M' 14 b = M 14 b) : LyI M' N lq := by
  obtain ⟨a1, a2, a3, a4, a5⟩ := h
  exact ⟨LyB_congr a1 h12 h13 h14, by rw [h12]; exact a2, a3, fun l hl => by rw [h13, numO_congr h13 h14]; exact a4 l hl, fun q hq hl => by rw [numO_congr h13 h14]; exact a5 q hq hl⟩
theorem LyI.lt {M : Mem} {N : Nat} {lq : Nat → Nat} (h : LyI M N lq) {l : Nat} (hl : l < N) : lq l < 262144 := by
  have h1 := (h.2.2.2.1 l hl).1
  have h2 := h.1.1 l (by have := h.2.2.1; omega)
  omega
theorem LyI.inj {M : Mem} {N : Nat} {lq : Nat → Nat} (h : LyI M N lq) {l l' : Nat} (hl : l < N) (hl' : l' < N) (e : lq l = lq l') : l = l' := by
  have h1 := (h.2.2.2.1 l hl).2
  have h2 := (h.2.2.2.1 l' hl').2
  rw [e] at h1
  omega
/-- askings lead from layings to layings -/
def Clo (T : TB) (N : Nat) (lq : Nat → Nat) : Prop := ∀ l i j, l < N → can T (dgf (lq l)) i j → ∃ l', l' < N ∧ lq l' = enc (aft T (dgf (lq l)) i j)
def RwI (M : Mem) (mv len : Nat) (T : TB) : Prop := ∀ k i, k < 720 → i < 6 → 6 * k + i < len → M (mv + 1) (6 * k + i) = -1 ∨ M (mv + 1) (6 * k + i) = (rrC (fun j => mvN M T (M 13 k).toNat i j) 6 : Int)
theorem RwI_congr {M M' : Mem} {mv len : Nat} {T : TB} (h : RwI M mv len T) (h13 : ∀ b, M' 13 b = M 13 b) (h14 : ∀ b, M' 14 b = M 14 b) (hm : ∀ b, M' (mv + 1) b = M (mv + 1) b) : RwI M' mv len T := by
  intro k i hk hi hl
  rw [hm, h13]
  simp only [mvN_congr h13 h14]
  exact h k i hk hi hl
def isSe (se mv tb oo len : Nat) : Prop := (se = 17 ∧ mv = 15 ∧ tb = 8 ∧ oo = 18 ∧ len = 4320) ∨ (se = 30 ∧ mv = 31 ∧ tb = 26 ∧ oo = 33 ∧ len = 0)
theorem isSe.mv {se mv tb oo len : Nat} (h : isSe se mv tb oo len) : isMv mv tb len := by
  rcases h with ⟨-, h1, h2, -, h3⟩ | ⟨-, h1, h2, -, h3⟩
  · exact Or.inl ⟨h1, h2, h3⟩
  · exact Or.inr ⟨h1, h2, h3⟩
theorem isSe_all {P : PMem} {se mv tb oo len : Nat} (hGr : Gr P) (h : isSe se mv tb oo len) : shp se = (5, 0) ∧ shp oo = (11, 720) ∧ shp (oo + 1) = (11, 720) ∧ shp (oo + 2) = (11, 720) ∧ se < 45 ∧ oo + 2 < 45 ∧ P se 0 = some mv ∧ P se 2 = some oo ∧ P se 3 = some (oo + 1) ∧ P se 4 = some (oo + 2) := by
  rcases h with ⟨rfl, rfl, rfl, rfl, rfl⟩ | ⟨rfl, rfl, rfl, rfl, rfl⟩ <;> exact ⟨rfl, rfl, rfl, rfl, by omega, by omega, hGr _ _ _ rfl, hGr _ _ _ rfl, hGr _ _ _ rfl, hGr _ _ _ rfl⟩
/-- what a search changes -/
def seS (se oo : Nat) : Nat → Prop := fun a => a = se ∨ a = oo ∨ a = oo + 1 ∨ a = oo + 2
def seX (se mv oo : Nat) : Nat → Prop := fun a => a = se ∨ a = oo ∨ a = oo + 1 ∨ a = oo + 2 ∨ a = mv + 1
def SI (M : Mem) (mv tb len : Nat) (T : TB) (N : Nat) (lq : Nat → Nat) : Prop := TabR M tb T ∧ LyI M N lq ∧ RwI M mv len T ∧ Clo T N lq
theorem SI_seS {M M' : Mem} {se mv tb oo len N : Nat} {T : TB} {lq : Nat → Nat} (hse : isSe se mv tb oo len) (h : SI M mv tb len T N lq) (he : eqx (seS se oo) M M') : SI M' mv tb len T N lq := by
  obtain ⟨a1, a2, a3, a4⟩ := h
  have q : ∀ a, a ≠ se → a ≠ oo → a ≠ oo + 1 → a ≠ oo + 2 → ∀ b, M' a b = M a b := fun a h1 h2 h3 h4 => he a (fun z => by rcases z with z | z | z | z <;> contradiction)
  unfold isSe at hse
  refine ⟨TabR_congr a1 (q tb (by omega) (by omega) (by omega) (by omega)) (q (tb + 1) (by omega) (by omega) (by omega) (by omega)) (q (tb + 3) (by omega) (by omega) (by omega) (by omega)), LyI_congr a2 (q 12 (by omega) (by omega) (by omega) (by omega)) (q 13 (by omega) (by omega) (by omega) (by omega)) (q 14 (by omega) (by omega) (by omega) (by omega)), RwI_congr a3 (q 13 (by omega) (by omega) (by omega) (by omega)) (q 14 (by omega) (by omega) (by omega) (by omega)) (q (mv + 1) (by omega) (by omega) (by omega) (by omega)), a4⟩
theorem SI_ro {M : Mem} {mv tb len N k i : Nat} {T : TB} {lq : Nat → Nat} (hmv : isMv mv tb len) (h : SI M mv tb len T N lq) (hk : k < 720) (hi : i < 6) : SI (roM M mv len T k i) mv tb len T N lq ∧ eqx (fun a => a = mv + 1) M (roM M mv len T k i) := by
  obtain ⟨a1, a2, a3, a4⟩ := h
  unfold isMv at hmv
  have he : eqx (fun a => a = mv + 1) M (roM M mv len T k i) := by
    unfold roM; split
    · exact eqx_up rfl
    · exact eqx.refl
  have q : ∀ a, a ≠ mv + 1 → ∀ b, roM M mv len T k i a b = M a b := fun a h1 => he a h1
  refine ⟨⟨TabR_congr a1 (q tb (by omega)) (q (tb + 1) (by omega)) (q (tb + 3) (by omega)), LyI_congr a2 (q 12 (by omega)) (q 13 (by omega)) (q 14 (by omega)), ?_, a4⟩, he⟩
  intro k2 i2 hk2 hi2 hl
  rw [q 13 (by omega)]
  simp only [mvN_congr (q 13 (by omega)) (q 14 (by omega))]
  unfold roM
  split
  · simp only [upM]
    split
    · rename_i h1 h2
      have : k2 = k ∧ i2 = i := by omega
      rw [this.1, this.2]; exact Or.inr rfl
    · exact a3 k2 i2 hk2 hi2 hl
  · exact a3 k2 i2 hk2 hi2 hl
/-! a search: lies reached, with how many askings and the first of them -/
abbrev BE : Type := Nat × Nat × Nat
noncomputable def bnx (T : TB) (e : BE) (i j : Nat) (bl : List BE) : List BE := by classical exact if can T (dgf e.1) i j ∧ (∀ x ∈ bl, x.1 ≠ enc (aft T (dgf e.1) i j)) then bl ++ [(enc (aft T (dgf e.1) i j), e.2.1 + 1, if e.2.1 = 0 then 10 * i + j else e.2.2)] else bl
noncomputable def bJ (T : TB) (e : BE) (i : Nat) : Nat → Nat → List BE → List BE
  | 0, _, bl => bl
  | c + 1, j, bl => bJ T e i c (j + 1) (bnx T e i j bl)
noncomputable def bI (T : TB) (e : BE) : Nat → Nat → List BE → List BE
  | 0, _, bl => bl
  | c + 1, i, bl => bI T e c (i + 1) (bJ T e i (tn T) 0 bl)
noncomputable def bX (T : TB) (s : List BE × Nat) : List BE × Nat := match s.1[s.2]? with
  | none => s
  | some e => (bI T e (tn T) 0 s.1, s.2 + 1)
noncomputable def bXn (T : TB) : Nat → List BE × Nat → List BE × Nat
  | 0, s => s
  | m + 1, s => bXn T m (bX T s)
def SeB (M : Mem) (se oo N : Nat) (lq : Nat → Nat) (bl : List BE) (o : Nat) : Prop :=
  M se 5 = (bl.length : Int) ∧ M se 6 = (o : Int) ∧ o ≤ bl.length ∧ (∀ (k k' : Nat) (e e' : BE), bl[k]? = some e → bl[k']? = some e' → e.1 = e'.1 → k = k') ∧
  (∀ (k : Nat) (e : BE), bl[k]? = some e → ∃ l, l < N ∧ lq l = e.1 ∧ M oo k = (l : Int) ∧ M (oo + 1) l = (e.2.1 : Int) ∧ M (oo + 2) l = (e.2.2 : Int) ∧ e.2.1 ≤ k ∧ e.2.2 ≤ 55) ∧
  (∀ l, l < 720 → (∀ e ∈ bl, l < N → lq l ≠ e.1) → M (oo + 1) l = -1)
theorem SeB_congr {M M' : Mem} {se oo N o : Nat} {lq : Nat → Nat} {bl : List BE} (h : SeB M se oo N lq bl o) (h0 : ∀ b, M' se b = M se b) (h1 : ∀ b, M' oo b = M oo b) (h2 : ∀ b, M' (oo + 1) b = M (oo + 1) b) (h3 : ∀ b, M' (oo + 2) b = M (oo + 2) b) : SeB M' se oo N lq bl o := by
  obtain ⟨a1, a2, a3, a4, a5, a6⟩ := h
  refine ⟨by rw [h0]; exact a1, by rw [h0]; exact a2, a3, a4, fun k e hk => ?_, fun l hl hb => by rw [h2]; exact a6 l hl hb⟩
  obtain ⟨l, b1, b2, b3, b4, b5, b6⟩ := a5 k e hk
  exact ⟨l, b1, b2, by rw [h1]; exact b3, by rw [h2]; exact b4, by rw [h3]; exact b5, b6⟩
theorem SeB.len {M : Mem} {se oo N o : Nat} {lq : Nat → Nat} {bl : List BE} (h : SeB M se oo N lq bl o) : bl.length ≤ N := by
  obtain ⟨a1, a2, a3, a4, a5, a6⟩ := h
  refine php N bl.length (fun k => (M oo k).toNat) (fun k hk => ?_) (fun i j hi hj e => ?_)
  · obtain ⟨l, b1, b2, b3, -⟩ := a5 k bl[k] (List.getElem?_eq_getElem hk)
    try dsimp only
    omega
  · obtain ⟨l, b1, b2, b3, -⟩ := a5 i bl[i] (List.getElem?_eq_getElem hi)
    obtain ⟨l', d1, d2, d3, -⟩ := a5 j bl[j] (List.getElem?_eq_getElem hj)
    try dsimp only at e
    have : l = l' := by omega
    exact a4 i j _ _ (List.getElem?_eq_getElem hi) (List.getElem?_eq_getElem hj) (by rw [← b2, ← d2, this])
/-- one more lie is reached, and there is room for its number -/
theorem SeB.len1 {M : Mem} {se oo N o : Nat} {lq : Nat → Nat} {bl : List BE} (h : SeB M se oo N lq bl o) {l : Nat} (hl : l < N) (hn : ∀ e ∈ bl, e.1 ≠ lq l) : bl.length + 1 ≤ N := by
  obtain ⟨a1, a2, a3, a4, a5, a6⟩ := h
  have key : ∀ k, k < bl.length → ∃ l', l' < N ∧ (M oo k).toNat = l' ∧ l' ≠ l ∧ ∃ e, bl[k]? = some e ∧ lq l' = e.1 := by
    intro k hk
    obtain ⟨l', b1, b2, b3, -⟩ := a5 k bl[k] (List.getElem?_eq_getElem hk)
    exact ⟨l', b1, by omega, fun q => hn bl[k] (List.getElem_mem hk) (by rw [← b2, q]), bl[k], List.getElem?_eq_getElem hk, b2⟩
  refine php N (bl.length + 1) (fun k => if k < bl.length then (M oo k).toNat else l) (fun k hk => ?_) (fun i j hi hj e => ?_)
  · try dsimp only
    split
    · rename_i h1; obtain ⟨l', b1, b2, -⟩ := key k h1; omega
    · exact hl
  · try dsimp only at e
    split at e <;> split at e
    · rename_i h1 h2
      obtain ⟨l1, b1, b2, b3, e1, b4, b5⟩ := key i h1
      obtain ⟨l2, d1, d2, d3, e2, d4, d5⟩ := key j h2
      exact a4 i j e1 e2 b4 d4 (by rw [← b5, ← d5, ← b2, ← d2, e])
    · rename_i h1 h2
      obtain ⟨l1, b1, b2, b3, -⟩ := key i h1
      omega
    · rename_i h1 h2
      obtain ⟨l1, b1, b2, b3, -⟩ := key j h2
      omega
    · omega
def rcM (M : Mem) (se oo : Nat) (l : Nat) (dp op : Int) : Mem := if l < 720 ∧ M (oo + 1) l = -1 then upM (putM (upM (upM M (oo + 1) l dp) (oo + 2) l op) oo 720 (M se 5) l) se 5 (M se 5 + 1) else M
theorem rcM_eqx {M : Mem} {se oo l : Nat} {dp op : Int} : eqx (seS se oo) M (rcM M se oo l dp op) := by
  unfold rcM; split
  · intro a ha b
    have h1 : a ≠ se := fun q => ha (Or.inl q)
    have h2 : a ≠ oo := fun q => ha (Or.inr (Or.inl q))
    have h3 : a ≠ oo + 1 := fun q => ha (Or.inr (Or.inr (Or.inl q)))
    have h4 : a ≠ oo + 2 := fun q => ha (Or.inr (Or.inr (Or.inr q)))
    rw [upM_ne h1]
    unfold putM
    split
    · rw [upM_ne h2, upM_ne h4, upM_ne h3]
    · rw [upM_ne h4, upM_ne h3]
  · exact eqx.refl
/-- a new lie -/
theorem SeB_new {M : Mem} {se oo N o : Nat} {lq : Nat → Nat} {bl : List BE} (hN : N ≤ 720) (hse : oo + 2 < se ∨ se < oo) (h : SeB M se oo N lq bl o) {l dp op : Nat} (hl : l < N) (hinj : ∀ a b, a < N → b < N → lq a = lq b → a = b) (hn : ∀ e ∈ bl, e.1 ≠ lq l) (hdp : dp ≤ bl.length) (hop : op ≤ 55) : SeB (rcM M se oo l dp op) se oo N lq (bl ++ [(lq l, dp, op)]) o := by
  have hlen := h.len1 hl hn
  obtain ⟨a1, a2, a3, a4, a5, a6⟩ := h
  have hm1 : M (oo + 1) l = -1 := a6 l (by omega) (fun e he _ => fun q => hn e he q.symm)
  unfold rcM
  rw [if_pos ⟨by omega, hm1⟩, a1]
  unfold putM
  rw [if_pos (by omega), show ((bl.length : Nat) : Int).toNat = bl.length by omega]
  have m0 : ∀ b, b ≠ 5 → upM (upM (upM (upM M (oo + 1) l dp) (oo + 2) l op) oo bl.length l) se 5 ((bl.length : Int) + 1) se b = M se b := by
    intro b hb
    rw [upM_nej hb, upM_ne (by omega), upM_ne (by omega), upM_ne (by omega)]
  have mo : ∀ b, b ≠ bl.length → upM (upM (upM (upM M (oo + 1) l dp) (oo + 2) l op) oo bl.length l) se 5 ((bl.length : Int) + 1) oo b = M oo b := by
    intro b hb
    rw [upM_ne (by omega), upM_nej hb, upM_ne (by omega), upM_ne (by omega)]
  have ms : ∀ b, b ≠ l → upM (upM (upM (upM M (oo + 1) l dp) (oo + 2) l op) oo bl.length l) se 5 ((bl.length : Int) + 1) (oo + 1) b = M (oo + 1) b := by
    intro b hb
    rw [upM_ne (by omega), upM_ne (by omega), upM_ne (by omega), upM_nej hb]
  have mp : ∀ b, b ≠ l → upM (upM (upM (upM M (oo + 1) l dp) (oo + 2) l op) oo bl.length l) se 5 ((bl.length : Int) + 1) (oo + 2) b = M (oo + 2) b := by
    intro b hb
    rw [upM_ne (by omega), upM_ne (by omega), upM_nej hb, upM_ne (by omega)]
  refine ⟨by rw [upM_self]; simp, by rw [m0 6 (by decide)]; exact a2, by simp; omega, fun k k' e e' hk hk' he => ?_, fun k e hk => ?_, fun l2 hl2 hb => ?_⟩
  · have key : ∀ (k : Nat) (e : BE), (bl ++ [(lq l, dp, op)])[k]? = some e → (k < bl.length ∧ bl[k]? = some e) ∨ (k = bl.length ∧ e = (lq l, dp, op)) := by
      intro k e hk
      by_cases hkl : k < bl.length
      · rw [List.getElem?_append_left hkl] at hk; exact Or.inl ⟨hkl, hk⟩
      · rw [List.getElem?_append_right (by omega)] at hk
        have hz : k - bl.length < 1 := (List.getElem?_eq_some_iff.mp hk).1
        rw [show k - bl.length = 0 by omega] at hk
        exact Or.inr ⟨by omega, by simpa using hk.symm⟩
    rcases key k e hk with ⟨q1, q2⟩ | ⟨q1, q2⟩ <;> rcases key k' e' hk' with ⟨r1, r2⟩ | ⟨r1, r2⟩
    · exact a4 k k' e e' q2 r2 he
    · exact absurd (by rw [he, r2]) (hn e (List.mem_of_getElem? q2))
    · exact absurd (by rw [← he, q2]) (hn e' (List.mem_of_getElem? r2))
    · omega
  · by_cases hkl : k < bl.length
    · rw [List.getElem?_append_left hkl] at hk
      obtain ⟨l', b1, b2, b3, b4, b5, b6⟩ := a5 k e hk
      have hne : l' ≠ l := fun q => hn e (List.mem_of_getElem? hk) (by rw [← b2, q])
      exact ⟨l', b1, b2, by rw [mo k (by omega)]; exact b3, by rw [ms l' hne]; exact b4, by rw [mp l' hne]; exact b5, b6⟩
    · rw [List.getElem?_append_right (by omega)] at hk
      have hz : k - bl.length < 1 := (List.getElem?_eq_some_iff.mp hk).1
      rw [show k - bl.length = 0 by omega] at hk
      have hk0 : k = bl.length := by omega
      have he : e = (lq l, dp, op) := by simpa using hk.symm
      subst he; subst hk0
      refine ⟨l, hl, rfl, ?_, ?_, ?_, hdp, hop⟩
      · rw [upM_ne (by omega), upM_self]
      · rw [upM_ne (by omega), upM_ne (by omega), upM_ne (by omega), upM_self]
      · rw [upM_ne (by omega), upM_ne (by omega), upM_self]
  · have hne : l2 ≠ l := fun q => hb (lq l, dp, op) (by simp) (by omega) (by rw [q])
    rw [ms l2 hne]
    exact a6 l2 hl2 (fun e he => hb e (List.mem_append_left _ he))
