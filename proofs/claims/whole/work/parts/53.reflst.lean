/-! the reference: prices, the list -/
theorem cnt_le {f : Nat → Nat} {d : Nat} : ∀ n, cnt n f d ≤ n
  | 0 => Nat.le_refl _
  | n + 1 => by
    have ih := cnt_le (f := f) (d := d) n
    unfold cnt
    split <;> omega
theorem di_len {N : Nat} {lq : Nat → Nat} {L : List BE} (h2 : bDi L) (h3 : ∀ x ∈ L, inN N lq x.1) : L.length ≤ N := by
  have key : ∀ k, k < L.length → ∃ l, l < N ∧ ∃ e : BE, L[k]? = some e ∧ lq l = e.1 := fun k hk => by
    obtain ⟨l, l1, l2⟩ := h3 L[k] (List.getElem_mem hk)
    exact ⟨l, l1, L[k], List.getElem?_eq_getElem hk, l2⟩
  classical
  refine php N L.length (fun k => if hk : k < L.length then Classical.choose (key k hk) else 0) (fun k hk => ?_) (fun i j hi hj e => ?_)
  · rw [dif_pos hk]; exact (Classical.choose_spec (key k hk)).1
  · rw [dif_pos hi, dif_pos hj] at e
    obtain ⟨-, e1, p1, p2⟩ := Classical.choose_spec (key i hi)
    obtain ⟨-, e2, r1, r2⟩ := Classical.choose_spec (key j hj)
    exact h2 i j e1 e2 p1 r1 (by rw [← p2, ← r2, e])
def clL (T : TB) (sv : Nat) (L : List BE) (x : BE) : Prop := ∀ y w, pE T sv x.1 y w → ∃ z ∈ L, z.1 = y ∧ z.2.1 ≤ x.2.1 + w
def clA (T : TB) (sv : Nat) (L : List BE) (x : BE) (a : Nat) : Prop := ∀ i j, i < tn T → j < tn T → i * tn T + j < a → (can T (dgf x.1) i j → ∃ z ∈ L, z.1 = enc (aft T (dgf x.1) i j) ∧ z.2.1 ≤ x.2.1 + hnd T i j) ∧ (i < j → ∃ z ∈ L, z.1 = enc (sw (dgf x.1) i j) ∧ z.2.1 ≤ x.2.1 + sv)
theorem clA_L {T : TB} {sv : Nat} {L : List BE} {x : BE} (h : clA T sv L x (tn T * tn T)) : clL T sv L x := by
  have key : ∀ i j, i < tn T → j < tn T → i * tn T + j < tn T * tn T := fun i j hi hj => by
    have : (i + 1) * tn T ≤ tn T * tn T := Nat.mul_le_mul_right _ hi
    rw [Nat.succ_mul] at this
    omega
  intro y w he
  rcases he with ⟨i, j, h1, h2, h3⟩ | ⟨⟨i, j, h1, h2, h3⟩, h4⟩
  · rw [h2, h3]
    exact (h i j h1.2.1 h1.2.2.1 (key i j h1.2.1 h1.2.2.1)).1 h1
  · rw [h3, h4]
    exact (h i j (by omega) h2 (key i j (by omega) h2)).2 h1
def pcR (q c : Nat) (L : List BE) (dn : Nat → Nat) (L' : List BE) (dn' : Nat → Nat) : Prop := (∃ (p : Nat) (e : BE), L[p]? = some e ∧ e.1 = q ∧ dn' = dn ∧ ((c < e.2.1 ∧ L' = L.set p (e.1, c, e.2.2)) ∨ (e.2.1 ≤ c ∧ L' = L))) ∨ ((∀ x ∈ L, x.1 ≠ q) ∧ L' = L ++ [(q, c, 0)] ∧ dn' = ud dn L.length 0)
def bsP (T : TB) (N : Nat) (lq : Nat → Nat) (q0 sv : Nat) (L : List BE) (m : Nat) : Prop := bDi L ∧ (∀ x ∈ L, inN N lq x.1) ∧ (∀ x ∈ L, x.2.1 ≤ 99 * m ∧ ∃ n, pth (pE T sv) n q0 x.1 x.2.1) ∧ ∃ z ∈ L, z.1 = q0 ∧ z.2.1 ≤ 0
def QIp (T : TB) (N : Nat) (lq : Nat → Nat) (q0 sv : Nat) (L : List BE) (dn : Nat → Nat) (k : Nat) (e : BE) (m : Nat) : Prop :=
  bsP T N lq q0 sv L m ∧ (L[k]? = some e ∧ dn k = 1 ∧ cnt L.length dn 1 = m ∧ e.2.1 + 99 ≤ 99 * m) ∧ (∀ (j : Nat) (x : BE), L[j]? = some x → dn j = 1 → x.2.1 ≤ e.2.1) ∧ (∀ (j : Nat) (x : BE), L[j]? = some x → dn j ≠ 1 → e.2.1 ≤ x.2.1) ∧ ∀ (j : Nat) (x : BE), j ≠ k → L[j]? = some x → dn j = 1 → clL T sv L x
theorem set_get {L : List BE} {p j : Nat} {e x y : BE} (hp : L[p]? = some e) (h : (L.set p x)[j]? = some y) : (j = p ∧ y = x) ∨ (j ≠ p ∧ L[j]? = some y) := by
  have hl := (List.getElem?_eq_some_iff.mp hp).1
  by_cases z : j = p
  · rw [z, List.getElem?_set_self hl] at h
    exact Or.inl ⟨z, (Option.some.inj h).symm⟩
  · rw [List.getElem?_set_ne (fun w => z w.symm)] at h
    exact Or.inr ⟨z, h⟩
theorem pc_mono {q c : Nat} {L L' : List BE} {dn dn' : Nat → Nat} (h : pcR q c L dn L' dn') : ∀ y B, (∃ z ∈ L, z.1 = y ∧ z.2.1 ≤ B) → ∃ z ∈ L', z.1 = y ∧ z.2.1 ≤ B := by
  intro y B hz
  obtain ⟨z, z1, z2, z3⟩ := hz
  rcases h with ⟨p, e, h1, h2, -, ⟨h3, h4⟩ | ⟨h3, h4⟩⟩ | ⟨h1, h2, -⟩
  · obtain ⟨j, hj⟩ := List.getElem?_of_mem z1
    have hl := (List.getElem?_eq_some_iff.mp h1).1
    by_cases w : j = p
    · rw [w, h1] at hj
      have hez := Option.some.inj hj
      refine ⟨(e.1, c, e.2.2), List.mem_of_getElem? (i := p) (by rw [h4, List.getElem?_set_self hl]), by rw [← z2, ← hez], ?_⟩
      show c ≤ B
      rw [← hez] at z3; omega
    · exact ⟨z, List.mem_of_getElem? (i := j) (by rw [h4, List.getElem?_set_ne (fun v => w v.symm)]; exact hj), z2, z3⟩
  · rw [h4]; exact ⟨z, z1, z2, z3⟩
  · rw [h2]; exact ⟨z, List.mem_append_left _ z1, z2, z3⟩
theorem pc_in {q c : Nat} {L L' : List BE} {dn dn' : Nat → Nat} (h : pcR q c L dn L' dn') : ∃ z ∈ L', z.1 = q ∧ z.2.1 ≤ c := by
  rcases h with ⟨p, e, h1, h2, -, ⟨h3, h4⟩ | ⟨h3, h4⟩⟩ | ⟨h1, h2, -⟩
  · have hl := (List.getElem?_eq_some_iff.mp h1).1
    exact ⟨(e.1, c, e.2.2), List.mem_of_getElem? (i := p) (by rw [h4, List.getElem?_set_self hl]), h2, Nat.le_refl _⟩
  · rw [h4]; exact ⟨e, List.mem_of_getElem? h1, h2, h3⟩
  · rw [h2]; exact ⟨(q, c, 0), List.mem_append_right _ (List.mem_singleton.mpr rfl), rfl, Nat.le_refl _⟩
theorem QI_pc {T : TB} {N q0 sv k m q c : Nat} {lq dn dn' : Nat → Nat} {L L' : List BE} {e : BE} (h : QIp T N lq q0 sv L dn k e m) (hc : e.2.1 ≤ c ∧ c ≤ e.2.1 + 99) (hin : inN N lq q) (hp : ∃ n, pth (pE T sv) n q0 q c) (hr : pcR q c L dn L' dn') : QIp T N lq q0 sv L' dn' k e m := by
  have hmono := pc_mono hr
  obtain ⟨⟨b1, b2, b3, b4⟩, ⟨c1, c2, c3, c4⟩, hA, hB, hD⟩ := id h
  rcases hr with ⟨p, x0, h1, h2, h5, ⟨h3, h4⟩ | ⟨h3, h4⟩⟩ | ⟨h1, h2, h3⟩
  · subst h5
    have hpd : dn' p ≠ 1 := fun z => by have := hA p x0 h1 z; omega
    have hpk : k ≠ p := fun z => hpd (by rw [← z]; exact c2)
    have hget : ∀ (j : Nat) (y : BE), L'[j]? = some y → (j = p ∧ y = (x0.1, c, x0.2.2)) ∨ (j ≠ p ∧ L[j]? = some y) := fun j y hy => by rw [h4] at hy; exact set_get h1 hy
    have hcl : ∀ x, clL T sv L x → clL T sv L' x := fun x hx y w hw => hmono _ _ (hx y w hw)
    have hone : ∀ (j : Nat) (y : BE), L'[j]? = some y → ∃ y' : BE, L[j]? = some y' ∧ y'.1 = y.1 := fun j y hy => by
      rcases hget j y hy with ⟨r1, r2⟩ | ⟨r1, r2⟩
      · exact ⟨x0, by rw [r1]; exact h1, by rw [r2]⟩
      · exact ⟨y, r2, rfl⟩
    refine ⟨⟨fun j j' y y' hy hy' he => ?_, fun x hx => ?_, fun x hx => ?_, hmono _ _ b4⟩, ⟨?_, c2, by rw [h4, List.length_set]; exact c3, c4⟩, fun j x hx hd => ?_, fun j x hx hd => ?_, fun j x hjk hx hd => ?_⟩
    · obtain ⟨u, u1, u2⟩ := hone j y hy
      obtain ⟨v, v1, v2⟩ := hone j' y' hy'
      exact b1 j j' u v u1 v1 (by rw [u2, v2, he])
    · obtain ⟨j, hj⟩ := List.getElem?_of_mem hx
      obtain ⟨u, u1, u2⟩ := hone j x hj
      rw [← u2]; exact b2 u (List.mem_of_getElem? u1)
    · obtain ⟨j, hj⟩ := List.getElem?_of_mem hx
      rcases hget j x hj with ⟨r1, r2⟩ | ⟨r1, r2⟩
      · rw [r2]
        refine ⟨by show c ≤ 99 * m; omega, ?_⟩
        show ∃ n, pth (pE T sv) n q0 x0.1 c
        rw [h2]; exact hp
      · exact b3 x (List.mem_of_getElem? r2)
    · rw [h4, List.getElem?_set_ne (fun z => hpk z.symm)]; exact c1
    · rcases hget j x hx with ⟨r1, r2⟩ | ⟨r1, r2⟩
      · rw [r1] at hd; exact absurd hd hpd
      · exact hA j x r2 hd
    · rcases hget j x hx with ⟨r1, r2⟩ | ⟨r1, r2⟩
      · rw [r2]; exact hc.1
      · exact hB j x r2 hd
    · rcases hget j x hx with ⟨r1, r2⟩ | ⟨r1, r2⟩
      · rw [r1] at hd; exact absurd hd hpd
      · exact hcl x (hD j x hjk r2 hd)
  · rw [h4, h5]; exact h
  · have hcl : ∀ x, clL T sv L x → clL T sv L' x := fun x hx y w hw => hmono _ _ (hx y w hw)
    have hkl := (List.getElem?_eq_some_iff.mp c1).1
    have hget : ∀ (j : Nat) (y : BE), L'[j]? = some y → (j < L.length ∧ L[j]? = some y ∧ dn' j = dn j) ∨ (j = L.length ∧ y = (q, c, 0) ∧ dn' j = 0) := fun j y hy => by
      rw [h2] at hy
      rcases get_app hy with ⟨r1, r2⟩ | ⟨r1, r2⟩
      · exact Or.inl ⟨r1, r2, by rw [h3]; unfold ud; rw [if_neg (by omega)]⟩
      · exact Or.inr ⟨r1, r2, by rw [h3]; unfold ud; rw [if_pos r1]⟩
    refine ⟨⟨fun j j' y y' hy hy' he => ?_, fun x hx => ?_, fun x hx => ?_, hmono _ _ b4⟩, ⟨?_, ?_, ?_, c4⟩, fun j x hx hd => ?_, fun j x hx hd => ?_, fun j x hjk hx hd => ?_⟩
    · rcases hget j y hy with ⟨r1, r2, -⟩ | ⟨r1, r2, -⟩ <;> rcases hget j' y' hy' with ⟨t1, t2, -⟩ | ⟨t1, t2, -⟩
      · exact b1 j j' y y' r2 t2 he
      · rw [t2] at he; exact absurd he (h1 y (List.mem_of_getElem? r2))
      · rw [r2] at he; exact absurd he.symm (h1 y' (List.mem_of_getElem? t2))
      · omega
    · rw [h2] at hx
      rcases List.mem_append.mp hx with hx | hx
      · exact b2 x hx
      · rw [List.mem_singleton.mp hx]; exact hin
    · rw [h2] at hx
      rcases List.mem_append.mp hx with hx | hx
      · exact b3 x hx
      · rw [List.mem_singleton.mp hx]; exact ⟨by show c ≤ 99 * m; omega, hp⟩
    · rw [h2, List.getElem?_append_left hkl]; exact c1
    · rw [h3]; unfold ud; rw [if_neg (by omega)]; exact c2
    · rw [h2, h3, List.length_append]
      show cnt (L.length + 1) (ud dn L.length 0) 1 = m
      unfold cnt
      rw [cnt_congr (f := ud dn L.length 0) (g := dn) L.length (fun i hi => by unfold ud; rw [if_neg (by omega)]), c3]
      unfold ud
      rw [if_pos rfl]; rfl
    · rcases hget j x hx with ⟨r1, r2, r3⟩ | ⟨r1, r2, r3⟩
      · exact hA j x r2 (by rw [← r3]; exact hd)
      · omega
    · rcases hget j x hx with ⟨r1, r2, r3⟩ | ⟨r1, r2, r3⟩
      · exact hB j x r2 (by rw [← r3]; exact hd)
      · rw [r2]; exact hc.1
    · rcases hget j x hx with ⟨r1, r2, r3⟩ | ⟨r1, r2, r3⟩
      · exact hcl x (hD j x hjk r2 (by rw [← r3]; exact hd))
      · omega
def RIp (T : TB) (N : Nat) (lq : Nat → Nat) (q0 sv : Nat) (L : List BE) (dn : Nat → Nat) (m : Nat) : Prop :=
  bsP T N lq q0 sv L m ∧ cnt L.length dn 1 = m ∧ (∀ (j : Nat) (x : BE), L[j]? = some x → dn j = 1 → clL T sv L x) ∧ ∀ (j j' : Nat) (x x' : BE), L[j]? = some x → L[j']? = some x' → dn j = 1 → dn j' ≠ 1 → x.2.1 ≤ x'.2.1
def chR (L : List BE) (dn : Nat → Nat) (m : Nat) (r : Int) : Prop := (r = -1 ∧ ∀ k, k < m → dn k = 1) ∨ (∃ (k : Nat) (e : BE), r = (k : Int) ∧ k < m ∧ L[k]? = some e ∧ dn k ≠ 1 ∧ ∀ (k' : Nat) (e' : BE), k' < m → L[k']? = some e' → dn k' ≠ 1 → e.2.1 ≤ e'.2.1)
theorem RI_Q {T : TB} {N q0 sv k m : Nat} {lq dn : Nat → Nat} {L : List BE} {e : BE} (h : RIp T N lq q0 sv L dn m) (hk : L[k]? = some e) (hd : dn k ≠ 1) (hmin : ∀ (k' : Nat) (e' : BE), k' < L.length → L[k']? = some e' → dn k' ≠ 1 → e.2.1 ≤ e'.2.1) : QIp T N lq q0 sv L (ud dn k 1) k e (m + 1) := by
  obtain ⟨⟨b1, b2, b3, b4⟩, hc, hcl, hle⟩ := h
  have hkl := (List.getElem?_eq_some_iff.mp hk).1
  have hu := cnt_ud (f := dn) (i := k) (v := 1) (d := 1) L.length hkl
  rw [if_neg hd, if_pos rfl] at hu
  have hue : ∀ j, j ≠ k → ud dn k 1 j = dn j := fun j hj => by unfold ud; rw [if_neg hj]
  have he := (b3 e (List.mem_of_getElem? hk)).1
  refine ⟨⟨b1, b2, fun x hx => ⟨by have := (b3 x hx).1; omega, (b3 x hx).2⟩, b4⟩, ⟨hk, by unfold ud; rw [if_pos rfl], by omega, by omega⟩, fun j x hx hj => ?_, fun j x hx hj => ?_, fun j x hjk hx hj => ?_⟩
  · by_cases z : j = k
    · rw [z, hk] at hx; rw [Option.some.inj hx]; exact Nat.le_refl _
    · rw [hue j z] at hj; exact hle j k x e hx hk hj hd
  · by_cases z : j = k
    · exfalso; exact hj (by rw [z]; unfold ud; rw [if_pos rfl])
    · rw [hue j z] at hj; exact hmin j x (List.getElem?_eq_some_iff.mp hx).1 hx hj
  · rw [hue j hjk] at hj; exact hcl j x hx hj
theorem Q_RI {T : TB} {N q0 sv k m : Nat} {lq dn : Nat → Nat} {L : List BE} {e : BE} (h : QIp T N lq q0 sv L dn k e m) (hc : clL T sv L e) : RIp T N lq q0 sv L dn m := by
  obtain ⟨hb, ⟨c1, c2, c3, c4⟩, hA, hB, hD⟩ := h
  refine ⟨hb, c3, fun j x hx hj => ?_, fun j j' x x' hx hx' hj hj' => Nat.le_trans (hA j x hx hj) (hB j' x' hx' hj')⟩
  by_cases z : j = k
  · rw [z, c1] at hx; rw [← Option.some.inj hx]; exact hc
  · exact hD j x z hx hj
theorem RI_0 {T : TB} {N l0 sv : Nat} {lq dn : Nat → Nat} (hl : l0 < N) (hd : dn 0 ≠ 1) : RIp T N lq (lq l0) sv [(lq l0, 0, 0)] dn 0 := by
  have one : ∀ (k : Nat) (e : BE), [((lq l0, 0, 0) : BE)][k]? = some e → k = 0 ∧ e = (lq l0, 0, 0) := fun k e hk => by
    cases k with
    | zero => simp at hk; exact ⟨rfl, hk.symm⟩
    | succ k => simp at hk
  refine ⟨⟨fun k k' e e' hk hk' _ => by have := one k e hk; have := one k' e' hk'; omega, fun x hx => ?_, fun x hx => ?_, ⟨_, List.mem_singleton.mpr rfl, rfl, Nat.le_refl _⟩⟩, ?_, fun j x hx hj => ?_, fun j j' x x' hx hx' hj hj' => ?_⟩
  · rw [List.mem_singleton.mp hx]; exact ⟨l0, hl, rfl⟩
  · rw [List.mem_singleton.mp hx]; exact ⟨Nat.zero_le _, 0, rfl, rfl⟩
  · show cnt 1 dn 1 = 0
    unfold cnt cnt
    rw [if_neg hd]
  · rw [(one j x hx).1] at hj; exact absurd hj hd
  · rw [(one j x hx).1] at hj; exact absurd hj hd
theorem cl_path {T : TB} {q0 sv : Nat} {L : List BE} (hh : ∃ z ∈ L, z.1 = q0 ∧ z.2.1 ≤ 0) (hc : ∀ x ∈ L, clL T sv L x) : ∀ n q c, pth (pE T sv) n q0 q c → ∃ z ∈ L, z.1 = q ∧ z.2.1 ≤ c
  | 0, q, c, h => by
    obtain ⟨h1, h2⟩ := h
    rw [h1, h2]; exact hh
  | n + 1, q, c, h => by
    obtain ⟨q1, c1, w, h1, h2, h3⟩ := h
    obtain ⟨z, z1, z2, z3⟩ := cl_path hh hc n q1 c1 h1
    rw [← z2] at h2
    obtain ⟨y, y1, y2, y3⟩ := hc z z1 q w h2
    exact ⟨y, y1, y2, by omega⟩
theorem mnL_min {Pd : BE → Prop} {L : List BE} : ∀ k, k ≤ L.length → (mnL Pd L k = -4 ∧ ∀ (k' : Nat) (x : BE), k' < k → L[k']? = some x → ¬ Pd x) ∨ ∃ (k0 : Nat) (e : BE), k0 < k ∧ L[k0]? = some e ∧ Pd e ∧ mnL Pd L k = (e.2.1 : Int) ∧ ∀ (k' : Nat) (x : BE), k' < k → L[k']? = some x → Pd x → e.2.1 ≤ x.2.1
  | 0, _ => Or.inl ⟨rfl, fun k' x h => by omega⟩
  | k + 1, hk => by
    obtain ⟨x, hx⟩ : ∃ x, L[k]? = some x := ⟨L[k], List.getElem?_eq_getElem (by omega)⟩
    rcases mnL_min (Pd := Pd) (L := L) k (by omega) with ⟨a1, a2⟩ | ⟨k0, e, a1, a2, a3, a4, a5⟩
    · by_cases hp : Pd x
      · refine Or.inr ⟨k, x, by omega, hx, hp, mnL_1 hx hp (Or.inl a1), fun k' y hk' hy hpy => ?_⟩
        by_cases q : k' = k
        · rw [q, hx] at hy; rw [Option.some.inj hy]; exact Nat.le_refl _
        · exact absurd hpy (a2 k' y (by omega) hy)
      · refine Or.inl ⟨by rw [mnL_0 hx (fun z => hp z.1)]; exact a1, fun k' y hk' hy => ?_⟩
        by_cases q : k' = k
        · rw [q, hx] at hy; rw [← Option.some.inj hy]; exact hp
        · exact a2 k' y (by omega) hy
    · by_cases hp : Pd x ∧ x.2.1 < e.2.1
      · refine Or.inr ⟨k, x, by omega, hx, hp.1, mnL_1 hx hp.1 (Or.inr (by have := hp.2; omega)), fun k' y hk' hy hpy => ?_⟩
        by_cases q : k' = k
        · rw [q, hx] at hy; rw [Option.some.inj hy]; exact Nat.le_refl _
        · have := a5 k' y (by omega) hy hpy; have := hp.2; omega
      · refine Or.inr ⟨k0, e, by omega, a2, a3, ?_, fun k' y hk' hy hpy => ?_⟩
        · rw [mnL_0 hx (fun z => hp ⟨z.1, by rcases z.2 with q | q <;> omega⟩)]; exact a4
        · by_cases q : k' = k
          · rw [q, hx] at hy
            have := Option.some.inj hy
            rw [← this] at hpy ⊢
            exact Nat.not_lt.mp (fun z => hp ⟨hpy, z⟩)
          · exact a5 k' y (by omega) hy hpy
theorem fp_pr {T : TB} {q0 sv g d : Nat} {L : List BE} (hs : ∀ x ∈ L, ∃ n, pth (pE T sv) n q0 x.1 x.2.1) (hh : ∃ z ∈ L, z.1 = q0 ∧ z.2.1 ≤ 0) (hc : ∀ x ∈ L, clL T sv L x) : prS T sv q0 g d (mnL (fun x => dgf x.1 g = d) L L.length) := by
  rcases mnL_min (Pd := fun x => dgf x.1 g = d) (L := L) L.length (Nat.le_refl _) with ⟨a1, a2⟩ | ⟨k0, e, a1, a2, a3, a4, a5⟩
  · refine Or.inl ⟨a1, fun n q c hp hd => ?_⟩
    obtain ⟨z, z1, z2, z3⟩ := cl_path hh hc n q c hp
    obtain ⟨j, hj⟩ := List.getElem?_of_mem z1
    exact a2 j z (List.getElem?_eq_some_iff.mp hj).1 hj (by rw [z2]; exact hd)
  · obtain ⟨n, hn⟩ := hs e (List.mem_of_getElem? a2)
    refine Or.inr ⟨n, e.1, e.2.1, hn, a3, a4, fun n' q' c' hp hd => ?_⟩
    obtain ⟨z, z1, z2, z3⟩ := cl_path hh hc n' q' c' hp
    obtain ⟨j, hj⟩ := List.getElem?_of_mem z1
    have := a5 j z (List.getElem?_eq_some_iff.mp hj).1 hj (by rw [z2]; exact hd)
    omega
/-! memory -/
def DNR (M : Mem) (L : List BE) (dn : Nat → Nat) : Prop := ∀ k, k < L.length → M 72 k = (dn k : Int) ∧ dn k ≤ 1
def cKp (M M' : Mem) : Prop := (∀ a, a ≠ 45 → a ≠ 63 → ¬ (67 ≤ a ∧ a ≤ 70) → a ≠ 72 → ∀ b, M' a b = M a b) ∧ ∀ b, b ≠ 37 → b ≠ 41 → b ≠ 42 → M' 45 b = M 45 b
theorem cKp.refl {M : Mem} : cKp M M := ⟨fun _ _ _ _ _ _ => rfl, fun _ _ _ _ => rfl⟩
theorem cKp.trans {M M' M'' : Mem} (h : cKp M M') (h' : cKp M' M'') : cKp M M'' := ⟨fun a h1 h2 h3 h4 b => (h'.1 a h1 h2 h3 h4 b).trans (h.1 a h1 h2 h3 h4 b), fun b h1 h2 h3 => (h'.2 b h1 h2 h3).trans (h.2 b h1 h2 h3)⟩
theorem cKp_l {M M' : Mem} (h : lK M M') : cKp M M' := ⟨fun a h1 h2 h3 _ b => h.1 a h1 h2 h3 b, h.2⟩
theorem cKp_72 {M : Mem} {j : Nat} {v : Int} : cKp M (upM M 72 j v) := ⟨fun a h1 h2 h3 h4 b => upM_ne h4 b, fun b _ _ _ => upM_ne (by omega) b⟩
theorem SkR_c {M M' : Mem} {T : TB} {W : Nat → Nat} (h : SkR M T W) (hK : cKp M M') : SkR M' T W := SkR_x h (fun b hb => hK.2 b (by omega) (by omega) (by omega)) (fun a h1 h2 b => hK.1 a (by omega) (by omega) (by omega) (by omega) b)
theorem DNR_x {M M' : Mem} {L : List BE} {dn : Nat → Nat} (h : DNR M L dn) (e : ∀ b, M' 72 b = M 72 b) : DNR M' L dn := fun k hk => by rw [e]; exact h k hk
theorem MLi_far {M : Mem} {n st p c : Nat} {f0 : Nat → Nat} {L : List BE} {e : BE} (h : MLi M n st f0 L) (hp : L[p]? = some e) : MLi (upM M 69 p c) n st f0 (L.set p (e.1, c, e.2.2)) := by
  obtain ⟨⟨h1, h2, h3⟩, ⟨h4, h5, h6⟩, h7, h8⟩ := h
  have hl := (List.getElem?_eq_some_iff.mp hp).1
  refine ⟨⟨by rw [upM_ne (by omega), List.length_set]; exact h1, by rw [upM_ne (by omega)]; exact h2, by rw [upM_ne (by omega)]; exact h3⟩, ⟨by rw [List.length_set]; exact h4, h5, h6⟩, fun k x hk => ?_, fun q hq hno => ?_⟩
  · rw [upM_ne (show (68 : Nat) ≠ 69 by omega), upM_ne (show (70 : Nat) ≠ 69 by omega), upM_ne (show (67 : Nat) ≠ 69 by omega)]
    rcases set_get hp hk with ⟨r1, r2⟩ | ⟨r1, r2⟩
    · obtain ⟨u1, u2, u3, u4⟩ := h7 p e hp
      rw [r1, r2, upM_self]
      exact ⟨u1, rfl, u3, u4⟩
    · obtain ⟨u1, u2, u3, u4⟩ := h7 k x r2
      rw [upM_nej r1]
      exact ⟨u1, u2, u3, u4⟩
  · rw [upM_ne (by omega)]
    refine h8 q hq (fun x hx => ?_)
    obtain ⟨j, hj⟩ := List.getElem?_of_mem hx
    by_cases z : j = p
    · rw [z, hp] at hj
      rw [← Option.some.inj hj]
      exact hno (e.1, c, e.2.2) (List.mem_of_getElem? (i := p) (by rw [List.getElem?_set_self hl]))
    · exact hno x (List.mem_of_getElem? (i := j) (by rw [List.getElem?_set_ne (fun v => z v.symm)]; exact hj))
def coQ (M : Mem) (P : PMem) (n st : Nat) (f0 : Nat → Nat) (q c : Nat) (L : List BE) (dn : Nat → Nat) : Mem → PMem → Prop := fun M' P' => P = P' ∧ ∃ L' dn', MLi M' n st f0 L' ∧ DNR M' L' dn' ∧ pcR q c L dn L' dn' ∧ cKp M M'
set_option maxHeartbeats 4000000 in
set_option maxRecDepth 100000 in
theorem c_X10_costs1 {l : Launch} {n st q c : Nat} {f f0 dn : Nat → Nat} {L : List BE} {k : Nat} {e : BE} {M : Mem} {P : PMem} (hGr : GrM P) (g0 : M 45 0 = (n : Int)) (hn6 : n ≤ 6) (hL : MLi M n st f0 L) (hD : DNR M L dn) (hS : SpR M n f) (hf : lieN n f) (hcd : cdF f n = cdF (dgf q) n) (hql : cdF (dgf q) n < 46656) (hc9 : c ≤ 1000000) (hLf : ∀ x ∈ L, x.2.1 ≤ 1000000) (hk : L[k]? = some e) (he : e.1 = q) : CtV l yX10_costs cX10_costs 3 none 2 44 77 [vR 45, vI c] M P (coQ M P n st f0 q c L dn) := by
  refine Ct_of (own := RX10) (L := [vR 45, vI c, vX 1]) (by decide) rfl rfl (Nat.le_of_ble_eq_true rfl) (fun X Y hl hC hQ => ?_)
  obtain ⟨⟨l1, l2, l3⟩, ⟨l4, l5, l6⟩, l7, l8⟩ := id hL
  obtain ⟨e1, e2, e3, e4⟩ := l7 k e hk
  have hkl := (List.getElem?_eq_some_iff.mp hk).1
  have hel := hLf e (List.mem_of_getElem? hk)
  subst he
  refine G_al0 hC dX10_costs_0 ?_
  refine G_al0 hC dX10_costs_1 ?_
  refine G_callVI hC (c_X10_codeNow hGr g0 hn6 hS hf) mv_X10_253 (by first | assumption | rfl) (by omega) (by decide) rfl (by decide) dX10_costs_2 rfl (Nat.le_of_ble_eq_true rfl) rfl (fun z2 M2 P2 h2 => ?_)
  obtain ⟨rfl, rfl, rfl⟩ := h2
  rw [hcd]
  refine G_callVI hC (c_X10_index1 hGr hL hk hql) mv_X10_269 (by first | assumption | rfl) (by omega) (by decide) rfl (by decide) dX10_costs_5 rfl (Nat.le_of_ble_eq_true rfl) rfl (fun z5 M5 P5 h5 => ?_)
  obtain ⟨rfl, rfl, rfl⟩ := h5
  refine G_is2 hC dX10_costs_8 rfl ?_
  refine G_il2 hC dX10_costs_9 ?_
  refine G_if_ge (tgt := 36) hC dX10_costs_10 (by decide) (by omega) (fun c10 => ?_) (fun c10 => ?_)
  · refine G_il1 hC dX10_costs_36 ?_
    refine G_al0 hC dX10_costs_37 ?_
    refine G_getR hC fl_X10_80 (by first | assumption | rfl) (by omega) (by first | assumption | exact hGr _ _ rfl) dX10_costs_38 ?_
    refine G_il2 hC dX10_costs_41 ?_
    refine G_ialoadN (n := k) hC (by first | assumption | rfl) (by omega) (by omega) (by omega) dX10_costs_42 ?_
    rw [e2]
    refine G_icmp_ge (tgt := 53) hC dX10_costs_43 (by decide) (by omega) (by omega) (fun c43 => ?_) (fun c43 => ?_)
    · refine G_vret hC hQ dX10_costs_53 ?_
      first
        | exact ⟨rfl, rfl, L, dn, hL, hD, Or.inl ⟨k, e, hk, rfl, rfl, Or.inr ⟨by omega, rfl⟩⟩, cKp.refl⟩
        | exact ⟨rfl, rfl, _, dn, MLi_far hL hk, fun j hj => by rw [upM_ne (by omega)]; exact hD j (by rw [List.length_set] at hj; exact hj), Or.inl ⟨k, e, hk, rfl, rfl, Or.inl ⟨by omega, rfl⟩⟩, ⟨fun a h1 h2 h3 h4 b => upM_ne (by omega) b, fun b _ _ _ => upM_ne (by omega) b⟩⟩
    · refine G_al0 hC dX10_costs_46 ?_
      refine G_getR hC fl_X10_80 (by first | assumption | rfl) (by omega) (by first | assumption | exact hGr _ _ rfl) dX10_costs_47 ?_
      refine G_il2 hC dX10_costs_50 ?_
      refine G_il1 hC dX10_costs_51 ?_
      refine G_iastoreN (n := k) hC (by first | assumption | rfl) (by omega) (by omega) (by omega) dX10_costs_52 ?_
      refine G_vret hC hQ dX10_costs_53 ?_
      first
        | exact ⟨rfl, rfl, L, dn, hL, hD, Or.inl ⟨k, e, hk, rfl, rfl, Or.inr ⟨by omega, rfl⟩⟩, cKp.refl⟩
        | exact ⟨rfl, rfl, _, dn, MLi_far hL hk, fun j hj => by rw [upM_ne (by omega)]; exact hD j (by rw [List.length_set] at hj; exact hj), Or.inl ⟨k, e, hk, rfl, rfl, Or.inl ⟨by omega, rfl⟩⟩, ⟨fun a h1 h2 h3 h4 b => upM_ne (by omega) b, fun b _ _ _ => upM_ne (by omega) b⟩⟩
  · exact absurd c10 (by omega)
set_option maxHeartbeats 4000000 in
set_option maxRecDepth 100000 in
theorem c_X10_costs0 {l : Launch} {n st q c : Nat} {f f0 dn : Nat → Nat} {L : List BE} {M : Mem} {P : PMem} (hGr : GrM P) (g0 : M 45 0 = (n : Int)) (hn6 : n ≤ 6) (hL : MLi M n st f0 L) (hD : DNR M L dn) (hS : SpR M n f) (hf : lieN n f) (hcd : cdF f n = cdF (dgf q) n) (hql : cdF (dgf q) n < 46656) (hc9 : c ≤ 1000000) (hLf : ∀ x ∈ L, x.2.1 ≤ 1000000) (hlen : L.length < 720) (hno : ∀ e ∈ L, cdF (dgf e.1) n ≠ cdF (dgf q) n) : CtV l yX10_costs cX10_costs 3 none 2 44 77 [vR 45, vI c] M P (coQ M P n st f0 q c L dn) := by
  refine Ct_of (own := RX10) (L := [vR 45, vI c, vX 1]) (by decide) rfl rfl (Nat.le_of_ble_eq_true rfl) (fun X Y hl hC hQ => ?_)
  obtain ⟨⟨l1, l2, l3⟩, ⟨l4, l5, l6⟩, l7, l8⟩ := id hL
  have g0' : upM M 72 L.length 0 45 0 = (n : Int) := by rw [upM_ne (by omega)]; exact g0
  have hS' : SpR (upM M 72 L.length 0) n f := fun g hg => by rw [upM_ne (by omega)]; exact hS g hg
  have hL' : MLi (upM M 72 L.length 0) n st f0 L := MLi_x hL (fun b hb => upM_ne (by omega) b) (fun a h1 h2 b => upM_ne (by omega) b)
  obtain ⟨r1, r2⟩ := adMM_R (x := (q, c, 0)) hL' hlen hql (fun x hx => hno x hx)
  have hdn : DNR (adMM (upM M 72 L.length 0) (cdF (dgf q) n) c ((0 : Nat) : Int) st L.length) (L ++ [(q, c, 0)]) (ud dn L.length 0) := fun j hj => by
    unfold adMM ud
    rw [upM_ne (by omega), upM_ne (by omega), upM_ne (by omega), upM_ne (by omega), upM_ne (by omega)]
    by_cases z : j = L.length
    · rw [if_pos z, z, upM_self]; exact ⟨rfl, by omega⟩
    · rw [if_neg z, upM_nej z]
      rw [List.length_append] at hj
      have hj' : j < L.length + 1 := hj
      exact hD j (by omega)
  refine G_al0 hC dX10_costs_0 ?_
  refine G_al0 hC dX10_costs_1 ?_
  refine G_callVI hC (c_X10_codeNow hGr g0 hn6 hS hf) mv_X10_253 (by first | assumption | rfl) (by omega) (by decide) rfl (by decide) dX10_costs_2 rfl (Nat.le_of_ble_eq_true rfl) rfl (fun z2 M2 P2 h2 => ?_)
  obtain ⟨rfl, rfl, rfl⟩ := h2
  rw [hcd]
  refine G_callVI hC (c_X10_index0 hGr hL hql hno) mv_X10_269 (by first | assumption | rfl) (by omega) (by decide) rfl (by decide) dX10_costs_5 rfl (Nat.le_of_ble_eq_true rfl) rfl (fun z5 M5 P5 h5 => ?_)
  obtain ⟨rfl, rfl, rfl⟩ := h5
  refine G_is2 hC dX10_costs_8 rfl ?_
  refine G_il2 hC dX10_costs_9 ?_
  refine G_if_ge (tgt := 36) hC dX10_costs_10 (by decide) (by omega) (fun c10 => ?_) (fun c10 => ?_)
  · exact absurd c10 (by omega)
  · refine G_al0 hC dX10_costs_13 ?_
    refine G_getR hC fl_X10_90 (by first | assumption | rfl) (by omega) (by first | assumption | exact hGr _ _ rfl) dX10_costs_14 ?_
    refine G_al0 hC dX10_costs_17 ?_
    refine G_getI hC fl_X10_250 (by first | assumption | rfl) (by omega) dX10_costs_18 ?_
    rw [l1]
    refine G_iconst hC dX10_costs_21 ?_
    refine G_zastoreN (n := L.length) hC (by first | assumption | rfl) (by omega) (by omega) (by omega) (by omega) dX10_costs_22 ?_
    refine G_al0 hC dX10_costs_23 ?_
    refine G_al0 hC dX10_costs_24 ?_
    refine G_callVI hC (c_X10_codeNow hGr g0' hn6 hS' hf) mv_X10_253 (by first | assumption | rfl) (by omega) (by decide) rfl (by decide) dX10_costs_25 rfl (Nat.le_of_ble_eq_true rfl) rfl (fun z25 M25 P25 h25 => ?_)
    obtain ⟨rfl, rfl, rfl⟩ := h25
    rw [hcd]
    refine G_il1 hC dX10_costs_28 ?_
    refine G_iconst hC dX10_costs_29 ?_
    refine G_callVV hC (c_X10_adds (st := st) (l0 := L.length) hGr (by rw [upM_ne (by omega)]; exact l2) (by rw [upM_ne (by omega)]; exact l1) hql hlen) mv_X10_256 (by first | assumption | rfl) (by omega) (by decide) rfl (by decide) dX10_costs_30 rfl (Nat.le_of_ble_eq_true rfl) rfl (fun M30 P30 h30 => ?_)
    obtain ⟨rfl, rfl⟩ := h30
    refine G_goto (tgt := 53) hC dX10_costs_33 (by decide) ?_
    exact G_vret hC hQ dX10_costs_53 ⟨rfl, rfl, _, _, r1, hdn, Or.inr ⟨fun x hx z => hno x hx (by rw [z]), rfl, rfl⟩, cKp_72.trans (cKp_l r2)⟩
theorem c_X10_costs {l : Launch} {n st q c : Nat} {f f0 dn : Nat → Nat} {L : List BE} {M : Mem} {P : PMem} (hGr : GrM P) (g0 : M 45 0 = (n : Int)) (hn6 : n ≤ 6) (hL : MLi M n st f0 L) (hD : DNR M L dn) (hS : SpR M n f) (hf : lieN n f) (hcd : cdF f n = cdF (dgf q) n) (hql : cdF (dgf q) n < 46656) (hc9 : c ≤ 1000000) (hLf : ∀ x ∈ L, x.2.1 ≤ 1000000) (hlen : (∀ x ∈ L, x.1 ≠ q) → L.length < 720) (hno : (∀ x ∈ L, x.1 ≠ q) → ∀ e ∈ L, cdF (dgf e.1) n ≠ cdF (dgf q) n) : CtV l yX10_costs cX10_costs 3 none 2 44 77 [vR 45, vI c] M P (coQ M P n st f0 q c L dn) := by
  by_cases z : ∀ x ∈ L, x.1 ≠ q
  · exact c_X10_costs0 hGr g0 hn6 hL hD hS hf hcd hql hc9 hLf (hlen z) (hno z)
  · obtain ⟨x, hx, hxe⟩ : ∃ x, x ∈ L ∧ x.1 = q := Classical.byContradiction fun w => z (fun x hx e => w ⟨x, hx, e⟩)
    obtain ⟨k, hk⟩ := List.getElem?_of_mem hx
    exact c_X10_costs1 hGr g0 hn6 hL hD hS hf hcd hql hc9 hLf hk hxe
def chQ (M : Mem) (P : PMem) (L : List BE) (dn : Nat → Nat) : Int → Mem → PMem → Prop := fun r M' P' => P = P' ∧ M = M' ∧ chR L dn L.length r
set_option maxHeartbeats 4000000 in
set_option maxRecDepth 100000 in
theorem c_X10_cheapest {l : Launch} {n st : Nat} {f0 dn : Nat → Nat} {L : List BE} {M : Mem} {P : PMem} (hGr : GrM P) (hL : MLi M n st f0 L) (hD : DNR M L dn) (hLf : ∀ x ∈ L, x.2.1 ≤ 1000000)  : CtI l yX10_cheapest cX10_cheapest 3 (some .int) 0 0 77 [vR 45] M P (chQ M P L dn) := by
  refine Ct_of (own := RX10) (L := [vR 45, vX 1, vX 1]) (by decide) rfl rfl (Nat.le_of_ble_eq_true rfl) (fun X Y hl hC hQ => ?_)
  obtain ⟨⟨l1, l2, l3⟩, ⟨l4, l5, l6⟩, l7, l8⟩ := id hL
  have hlp : ∀ (c k : Nat) (kv v : Int), k + c = L.length → kv = (k : Int) → chR L dn k v → G X Y 4 [vR 45, vI v, vI kv] [] M P := by
    intro c
    induction c with
    | zero =>
      intro k kv v hk e1 hv
      subst e1
      have hkn : k = L.length := by omega
      rw [hkn] at hv
      have hvr : -1 ≤ v ∧ v ≤ 720 := by rcases hv with ⟨z, -⟩ | ⟨j, e, z1, z2, -⟩ <;> omega
      refine G_il2 hC dX10_cheapest_4 ?_
      refine G_al0 hC dX10_cheapest_5 ?_
      refine G_getI hC fl_X10_250 (by first | assumption | rfl) (by omega) dX10_cheapest_6 ?_
      rw [l1]
      refine G_icmp_ge (tgt := 52) hC dX10_cheapest_9 (by decide) (by omega) (by omega) (fun c9 => ?_) (fun c9 => ?_)
      · refine G_il1 hC dX10_cheapest_52 ?_
        exact G_iret hC hQ dX10_cheapest_53 ⟨_, rfl, rfl, rfl, hv⟩
      · exact absurd c9 (by omega)
    | succ c ih =>
      intro k kv v hk e1 hv
      subst e1
      have hvr : -1 ≤ v ∧ v ≤ 720 := by rcases hv with ⟨z, -⟩ | ⟨j, e, z1, z2, -⟩ <;> omega
      obtain ⟨e, hek⟩ : ∃ e, L[k]? = some e := ⟨L[k], List.getElem?_eq_getElem (by omega)⟩
      obtain ⟨c1, c2, c3, c4⟩ := l7 k e hek
      obtain ⟨d1, d2⟩ := hD k (by omega)
      have hel := hLf e (List.mem_of_getElem? hek)
      by_cases hd : dn k = 1
      · rw [hd] at d1
        have hv2 : chR L dn (k + 1) v := by
          rcases hv with ⟨z1, z2⟩ | ⟨j, x, z1, z2, z3, z4, z5⟩
          · exact Or.inl ⟨z1, fun k' hk' => by
              by_cases q : k' = k
              · rw [q]; exact hd
              · exact z2 k' (by omega)⟩
          · exact Or.inr ⟨j, x, z1, by omega, z3, z4, fun k' y hk' hy hyd => by
              by_cases q : k' = k
              · rw [q] at hyd; exact absurd hd hyd
              · exact z5 k' y (by omega) hy hyd⟩
        refine G_il2 hC dX10_cheapest_4 ?_
        refine G_al0 hC dX10_cheapest_5 ?_
        refine G_getI hC fl_X10_250 (by first | assumption | rfl) (by omega) dX10_cheapest_6 ?_
        rw [l1]
        refine G_icmp_ge (tgt := 52) hC dX10_cheapest_9 (by decide) (by omega) (by omega) (fun c9 => ?_) (fun c9 => ?_)
        · exact absurd c9 (by omega)
        · refine G_al0 hC dX10_cheapest_12 ?_
          refine G_getR hC fl_X10_90 (by first | assumption | rfl) (by omega) (by first | assumption | exact hGr _ _ rfl) dX10_cheapest_13 ?_
          refine G_il2 hC dX10_cheapest_16 ?_
          refine G_zaloadN (n := k) hC (by first | assumption | rfl) (by omega) (by omega) (by omega) dX10_cheapest_17 ?_
          rw [d1]
          refine G_if_ne (tgt := 44) hC dX10_cheapest_18 (by decide) (by omega) (fun c18 => ?_) (fun c18 => ?_)
          · refine G_il1 hC dX10_cheapest_44 ?_
            refine G_is1 hC dX10_cheapest_45 rfl ?_
            refine G_inc2 hC dX10_cheapest_46 rfl ?_
            refine G_goto (tgt := 4) hC dX10_cheapest_49 (by decide) ?_
            exact ih (k + 1) _ _ (by omega) (by omega) hv2
          · exact absurd c18 (by omega)
      · have hd0 : dn k = 0 := by omega
        rw [hd0] at d1
        rcases hv with ⟨z1, z2⟩ | ⟨j, x, z1, z2, z3, z4, z5⟩
        · subst z1
          have hv2 : chR L dn (k + 1) (k : Int) := Or.inr ⟨k, e, rfl, by omega, hek, hd, fun k' y hk' hy hyd => by
            by_cases q : k' = k
            · rw [q, hek] at hy; rw [Option.some.inj hy]; exact Nat.le_refl _
            · exact absurd (z2 k' (by omega)) hyd⟩
          refine G_il2 hC dX10_cheapest_4 ?_
          refine G_al0 hC dX10_cheapest_5 ?_
          refine G_getI hC fl_X10_250 (by first | assumption | rfl) (by omega) dX10_cheapest_6 ?_
          rw [l1]
          refine G_icmp_ge (tgt := 52) hC dX10_cheapest_9 (by decide) (by omega) (by omega) (fun c9 => ?_) (fun c9 => ?_)
          · exact absurd c9 (by omega)
          · refine G_al0 hC dX10_cheapest_12 ?_
            refine G_getR hC fl_X10_90 (by first | assumption | rfl) (by omega) (by first | assumption | exact hGr _ _ rfl) dX10_cheapest_13 ?_
            refine G_il2 hC dX10_cheapest_16 ?_
            refine G_zaloadN (n := k) hC (by first | assumption | rfl) (by omega) (by omega) (by omega) dX10_cheapest_17 ?_
            rw [d1]
            refine G_if_ne (tgt := 44) hC dX10_cheapest_18 (by decide) (by omega) (fun c18 => ?_) (fun c18 => ?_)
            · exact absurd rfl c18
            · refine G_il1 hC dX10_cheapest_21 ?_
              refine G_if_lt (tgt := 40) hC dX10_cheapest_22 (by decide) (by omega) (fun c22 => ?_) (fun c22 => ?_)
              · refine G_il2 hC dX10_cheapest_40 ?_
                refine G_goto (tgt := 45) hC dX10_cheapest_41 (by decide) ?_
                refine G_is1 hC dX10_cheapest_45 rfl ?_
                refine G_inc2 hC dX10_cheapest_46 rfl ?_
                refine G_goto (tgt := 4) hC dX10_cheapest_49 (by decide) ?_
                exact ih (k + 1) _ _ (by omega) (by omega) hv2
              · exact absurd c22 (by omega)
        · subst z1
          obtain ⟨j1, j2, j3, j4⟩ := l7 j x z3
          have hxl := hLf x (List.mem_of_getElem? z3)
          have hva : e.2.1 < x.2.1 → chR L dn (k + 1) (k : Int) := fun w => Or.inr ⟨k, e, rfl, by omega, hek, hd, fun k' y hk' hy hyd => by
            by_cases q : k' = k
            · rw [q, hek] at hy; rw [Option.some.inj hy]; exact Nat.le_refl _
            · have := z5 k' y (by omega) hy hyd; omega⟩
          have hvb : ¬ e.2.1 < x.2.1 → chR L dn (k + 1) (j : Int) := fun w => Or.inr ⟨j, x, rfl, by omega, z3, z4, fun k' y hk' hy hyd => by
            by_cases q : k' = k
            · rw [q, hek] at hy; rw [← Option.some.inj hy]; omega
            · exact z5 k' y (by omega) hy hyd⟩
          refine G_il2 hC dX10_cheapest_4 ?_
          refine G_al0 hC dX10_cheapest_5 ?_
          refine G_getI hC fl_X10_250 (by first | assumption | rfl) (by omega) dX10_cheapest_6 ?_
          rw [l1]
          refine G_icmp_ge (tgt := 52) hC dX10_cheapest_9 (by decide) (by omega) (by omega) (fun c9 => ?_) (fun c9 => ?_)
          · exact absurd c9 (by omega)
          · refine G_al0 hC dX10_cheapest_12 ?_
            refine G_getR hC fl_X10_90 (by first | assumption | rfl) (by omega) (by first | assumption | exact hGr _ _ rfl) dX10_cheapest_13 ?_
            refine G_il2 hC dX10_cheapest_16 ?_
            refine G_zaloadN (n := k) hC (by first | assumption | rfl) (by omega) (by omega) (by omega) dX10_cheapest_17 ?_
            rw [d1]
            refine G_if_ne (tgt := 44) hC dX10_cheapest_18 (by decide) (by omega) (fun c18 => ?_) (fun c18 => ?_)
            · exact absurd rfl c18
            · refine G_il1 hC dX10_cheapest_21 ?_
              refine G_if_lt (tgt := 40) hC dX10_cheapest_22 (by decide) (by omega) (fun c22 => ?_) (fun c22 => ?_)
              · exact absurd c22 (by omega)
              · refine G_al0 hC dX10_cheapest_25 ?_
                refine G_getR hC fl_X10_80 (by first | assumption | rfl) (by omega) (by first | assumption | exact hGr _ _ rfl) dX10_cheapest_26 ?_
                refine G_il2 hC dX10_cheapest_29 ?_
                refine G_ialoadN (n := k) hC (by first | assumption | rfl) (by omega) (by omega) (by omega) dX10_cheapest_30 ?_
                rw [c2]
                refine G_al0 hC dX10_cheapest_31 ?_
                refine G_getR hC fl_X10_80 (by first | assumption | rfl) (by omega) (by first | assumption | exact hGr _ _ rfl) dX10_cheapest_32 ?_
                refine G_il1 hC dX10_cheapest_35 ?_
                refine G_ialoadN (n := j) hC (by first | assumption | rfl) (by omega) (by omega) (by omega) dX10_cheapest_36 ?_
                rw [j2]
                refine G_icmp_ge (tgt := 44) hC dX10_cheapest_37 (by decide) (by omega) (by omega) (fun c37 => ?_) (fun c37 => ?_)
                · refine G_il1 hC dX10_cheapest_44 ?_
                  refine G_is1 hC dX10_cheapest_45 rfl ?_
                  refine G_inc2 hC dX10_cheapest_46 rfl ?_
                  refine G_goto (tgt := 4) hC dX10_cheapest_49 (by decide) ?_
                  first | exact ih (k + 1) _ _ (by omega) (by omega) (hva (by omega)) | exact ih (k + 1) _ _ (by omega) (by omega) (hvb (by omega))
                · refine G_il2 hC dX10_cheapest_40 ?_
                  refine G_goto (tgt := 45) hC dX10_cheapest_41 (by decide) ?_
                  refine G_is1 hC dX10_cheapest_45 rfl ?_
                  refine G_inc2 hC dX10_cheapest_46 rfl ?_
                  refine G_goto (tgt := 4) hC dX10_cheapest_49 (by decide) ?_
                  first | exact ih (k + 1) _ _ (by omega) (by omega) (hva (by omega)) | exact ih (k + 1) _ _ (by omega) (by omega) (hvb (by omega))
  refine G_iconst hC dX10_cheapest_0 ?_
  refine G_is1 hC dX10_cheapest_1 rfl ?_
  refine G_iconst hC dX10_cheapest_2 ?_
  refine G_is2 hC dX10_cheapest_3 rfl ?_
  exact hlp L.length 0 _ _ (by omega) rfl (Or.inl ⟨rfl, fun k hk => by omega⟩)
