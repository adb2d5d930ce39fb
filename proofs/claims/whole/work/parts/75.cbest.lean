/-! PURE: the class's best order -/
theorem lp5_c {β γ δ ε : Type} {f : (Int32 → β → γ → δ → ε → Prop) → Int32 → β → γ → δ → ε → Prop} (N : Nat) (hN : N < 1000000) (I : Nat → β → γ → δ → ε → Prop) (h : ∀ (L : Int32 → β → γ → δ → ε → Prop) (k : Nat) (b : β) (c : γ) (d : δ) (e : ε), k ≤ N → I k b c d e → (∀ b' c' d' e', k < N → I (k + 1) b' c' d' e' → L (nI (k + 1)) b' c' d' e') → f L (nI k) b c d e) (k0 : Nat) (b0 : β) (c0 : γ) (d0 : δ) (e0 : ε) (hk : k0 ≤ N) (h0 : I k0 b0 c0 d0 e0) : zw_lp5 f (nI k0) b0 c0 d0 e0 := by
  refine zw_lp5_m (fun x b c d e => ∃ k, x = nI k ∧ k ≤ N ∧ I k b c d e) (fun x _ _ _ _ => N - x.toNatClampNeg) (fun L x b c d e hx hL => ?_) (nI k0) b0 c0 d0 e0 ⟨k0, rfl, hk, h0⟩
  obtain ⟨k, rfl, hk2, hI⟩ := hx
  exact h L k b c d e hk2 hI (fun b' c' d' e' hlt hI2 => hL _ _ _ _ _ ⟨k + 1, rfl, hlt, hI2⟩ (by rw [nC (by omega), nC (by omega)]; omega))
/-! two rows that are alike give the same -/
section RC
variable {A : Nat → Nat → Int32} {row row' : Nat → Int32} {na nd nc : Nat}
theorem hasR_c {x : Int32} : ∀ n, (∀ k, k < n → row' k = row k) → hasR row' x n = hasR row x n := by
  intro n
  induction n with
  | zero => intro _; rfl
  | succ n ih => intro h; rw [hasR_s, hasR_s, ih (fun k hk => h k (by omega)), h n (by omega)]
theorem wt_c (h : ∀ k, k < nd → row' k = row k) (hc : cnt (A 6) na = nd) {a : Nat} (ha : a < na) : wA A row' a = wA A row a ∧ tA A row' a = tA A row a := by
  unfold wA tA
  by_cases k : A 6 a = 0
  · have := cnt_lt (kd := A 6) ha k
    rw [if_pos k, if_pos k, if_pos k, if_pos k, h _ (by omega)]; exact ⟨rfl, rfl⟩
  · rw [if_neg k, if_neg k, if_neg k, if_neg k]; exact ⟨rfl, rfl⟩
theorem carA_c (h : ∀ k, k < nd → row' k = row k) (hc : cnt (A 6) na = nd) {k : Nat} : ∀ a, a ≤ na → carA A row' k a = carA A row k a := by
  intro a
  induction a with
  | zero => intro _; rfl
  | succ a ih =>
    intro ha
    rw [carA_s, carA_s, ih (by omega), (wt_c h hc (show a < na by omega)).1, (wt_c h hc (show a < na by omega)).2]
theorem rsA_c (h : ∀ k, k < nd → row' k = row k) (hc : cnt (A 6) na = nd) {D sa : Int32} {i : Nat} : ∀ a, a ≤ na → rsA A row' nc D sa i a = rsA A row nc D sa i a := by
  intro a
  induction a with
  | zero => intro _; rfl
  | succ a ih =>
    intro ha
    rw [rsA_s, rsA_s, ih (by omega)]
    have g : gnA A row' i a = gnA A row i a := by
      unfold gnA
      rw [(wt_c h hc (show a < na by omega)).1, (wt_c h hc (show a < na by omega)).2, carA_c h hc a (by omega)]
    have f : faA A row' nc D sa i a = faA A row nc D sa i a := by
      unfold faA
      have := cnt_mono (kd := A 6) (show a + 1 ≤ na by omega)
      rw [hasR_c (cnt (A 6) (a + 1)) (fun k hk => h k (by omega))]
    rw [g, f]
end RC
theorem upTo_c {g : Nat → List (List Nat)} {p : Nat} : ∀ m, p ≤ m → (∀ i, p ≤ i → i < m → g i = []) → upTo g m = upTo g p := by
  intro m hm
  induction hm with
  | refl => intro _; rfl
  | @step m hm ih =>
    intro h
    have hm : p ≤ m := hm
    show upTo g m ++ g m = _
    rw [h m hm (Nat.lt_succ_self m), List.append_nil]
    exact ih (fun i h1 h2 => h i h1 (Nat.lt_succ_of_lt h2))
/-- over others too, when one by one -/
theorem OkR.tr {A bi : Nat → Nat → Int32} {na nd : Nat} {r : Nat → Nat} (h : OkR A bi na nd r) {x y : Nat} (hxy : Rh bi x y) : ∀ k, k < nd → r k = y → ∃ j, j < k ∧ r j = x := by
  unfold Rh at hxy
  induction hxy with
  | single e => intro k hk z; rw [← z] at e; exact h.1 k hk _ e
  | tail _ e ih =>
    intro k hk z
    rw [← z] at e
    obtain ⟨j, j1, j2⟩ := h.1 k hk _ e
    obtain ⟨j', u1, u2⟩ := ih j (by omega) j2
    exact ⟨j', by omega, u2⟩
section CB
variable {fi0 fiB fi gi : Nat → Int32} {fl gl : Nat → Int64} {ai aiB A bi : Nat → Nat → Int32} {al0 alB al bl : Nat → Nat → Int64} {p nc ns na nd nr no : Nat} {D : Int32} {row : Nat → Int32}
theorem Wa_greatestSize_s {K : Int64 → Prop} (hp : fi 7 = nI p) (hp6 : p ≤ 6) (had : Ad A row nd (ai 43)) (h11 : ∀ k, k < nd → isP 12 (A 11 k)) (hr : ∀ k, k < nd → isP p (row k)) (h41 : ∀ i k, i < p → k < nd → row k = nI i → al 41 i = rsA A row nc D (A 11 k) i na)
    (h : K (gxA A row nc D na nd)) : Wa_greatestSize_w fi fl ai al K := by
  unfold Wa_greatestSize_w
  rw [hp]
  refine nm_i (nm_i ?_)
  refine lp2_d p (by omega) (fun i v => 0 ≤ v.toInt ∧ (∀ k, k < nd → ∀ i', i' < i → row k = nI i' → (szA (rsA A row nc D (A 11 k) (row k).toNatClampNeg na)).toInt ≤ v.toInt) ∧ (v = 0 ∨ ∃ k, k < nd ∧ v = szA (rsA A row nc D (A 11 k) (row k).toNatClampNeg na))) (fun L i v hi hI hL => ?_) 0 0 (by omega) ⟨by decide, fun k _ i' h => absurd h (Nat.not_lt_zero _), Or.inl rfl⟩
  obtain ⟨i1, i2, i3⟩ := hI
  refine br_n (by omega) (by omega) (fun q => ?_) (fun q => ⟨vp_in_nI (by omega) (by omega), ?_⟩)
  · have : isG (fun k => szA (rsA A row nc D (A 11 k) (row k).toNatClampNeg na)) nd v := ⟨i1, fun k hk => by
      obtain ⟨w, w1, w2, w3⟩ := isP_of (hr k hk)
      exact i2 k hk w (by omega) w3, i3⟩
    rw [isG_u this (gxA_g nd)]; exact h
  · rw [nC (by omega)]
    refine jn1_o (fun v => 0 ≤ v.toInt ∧ (∀ k, k < nd → ∀ i', i' < i + 1 → row k = nI i' → (szA (rsA A row nc D (A 11 k) (row k).toNatClampNeg na)).toInt ≤ v.toInt) ∧ (v = 0 ∨ ∃ k, k < nd ∧ v = szA (rsA A row nc D (A 11 k) (row k).toNatClampNeg na))) (fun v hY => nm_i ?_) (fun J hJ => ?_)
    · rw [nI_p1]; exact hL _ q hY
    · by_cases z : ∃ k, k < nd ∧ row k = nI i
      · obtain ⟨k, k1, k2⟩ := z
        have a11 := h11 k k1
        rw [had.1 i k (by omega) k1 k2, if_neg (show ¬ A 11 k < 0 by rw [i_lt, show (0 : Int32).toInt = 0 from rfl]; unfold isP at a11; omega)]
        refine ⟨vp_in_nI (by omega) (by omega), ?_⟩
        have e41 := h41 i k q k1 k2
        have ek : szA (rsA A row nc D (A 11 k) (row k).toNatClampNeg na) = szA (al 41 i) := by rw [k2, nC (by omega), e41]
        show J (mxA v (szA (al 41 i)))
        obtain ⟨m1, m2, m3⟩ := mx_ge (g := v) (v := szA (al 41 i))
        refine hJ _ ⟨by omega, fun k' hk' i' hi' e => ?_, ?_⟩
        · by_cases u : i' = i
          · rw [u] at e
            have e43 : A 11 k' = A 11 k := by rw [← had.1 i k' (by omega) hk' e, had.1 i k (by omega) k1 k2]
            rw [e43, e, ← k2, ek]; exact m2
          · have := i2 k' hk' i' (by omega) e; omega
        · rcases m3 with u | u
          · rw [u]; exact i3
          · rw [u]; exact Or.inr ⟨k, k1, ek.symm⟩
      · rw [had.2 i (by omega) (fun k k1 k2 => z ⟨k, k1, k2⟩), if_pos (show (-1 : Int32) < 0 by decide)]
        refine hJ _ ⟨i1, fun k' hk' i' hi' e => ?_, i3⟩
        by_cases u : i' = i
        · rw [u] at e; exact absurd ⟨k', hk', e⟩ z
        · exact i2 k' hk' i' (by omega) e
/-- where the class's search stands -/
def Ds (fiB : Nat → Int32) (aiB : Nat → Nat → Int32) (alB : Nat → Nat → Int64) (nd : Nat) (acc : Int64 × List Nat) (fi : Nat → Int32) (fl : Nat → Int64) (ai : Nat → Nat → Int32) (al : Nat → Nat → Int64) : Prop :=
  (∀ k, k ≠ 9 → k ≠ 10 → k ≠ 11 → fi k = fiB k) ∧ (∀ q, q ≠ 43 → q ≠ 59 → q ≠ 60 → ai q = aiB q) ∧ (∀ q, q ≠ 41 → q ≠ 42 → al q = alB q) ∧ fl 0 = acc.1 ∧ (acc.1 = -1 ∨ (0 ≤ acc.1.toInt ∧ fi 11 = nI nd ∧ ∀ k, k < nd → ai 60 k = nI (gt acc.2 k)))
/-- the class's lines where a row is full: walk it, keep it if it is less -/
def weighA (fi : Nat → Int32) (fl : Nat → Int64) (ai : Nat → Nat → Int32) (al : Nat → Nat → Int64) (K : (Nat → Int32) → (Nat → Int64) → (Nat → Nat → Int32) → (Nat → Nat → Int64) → Prop) : Prop :=
  Wa_go_w fi fl ai al 59 (fun r fi1 ai1 al1 => if r = 0 then K fi1 fl ai1 al1 else Wa_greatestSize_w fi1 fl ai1 al1 (fun g => Se_keepIfLess_w fi1 fl ai1 al1 g (fun fi2 fl2 ai2 => K fi2 fl2 ai2 al1)))
theorem weighA_s {K : (Nat → Int32) → (Nat → Int64) → (Nat → Nat → Int32) → (Nat → Nat → Int64) → Prop} {acc : Int64 × List Nat} {l : List Nat} (hN : RlN p nc ns na nd nr no fi0 A al0 gi bi bl) (hns : 0 < ns) (hf : ∀ k, k < 8 → fiB k = fi0 k) (h8 : fiB 8 = nI (ns - 1)) (hA : ∀ q, q < 43 → aiB q = A q) (h44 : ∀ s, s < ns → aiB 44 s = crA A (edA fi0 A ns - A 5 s) nc) (h46 : ∀ t s, t < ns → s ≤ t → aiB (46 + t) s = crA A (A 5 t - A 5 s) nc)
    (hD : Ds fiB aiB alB nd acc fi fl ai al) (h59 : ∀ k, k < nd → ai 59 k = nI (gt l k)) (hl : ∀ k, k < nd → gt l k < p) (un : ∀ j k, j < nd → k < nd → gt l j = gt l k → j = k) (hT : ∀ k, k < nd → ∀ x, Rh bi x (gt l k) → ∃ j, j < k ∧ gt l j = x)
    (hy : ∀ fi' fl' ai' al', Ds fiB aiB alB nd (beA fi0 A bi nc ns na nd acc [l]) fi' fl' ai' al' → ai' 59 = ai 59 → K fi' fl' ai' al') : weighA fi fl ai al K := by
  obtain ⟨hn, hC, hg, hk, hd, ha, hw, hf0, he, ho, hr0, hq⟩ := id hN
  obtain ⟨n1, n2, n3, n4, n5, n6, n7, n8⟩ := id hn
  obtain ⟨c7, g0, c1, g1, c2, g2, c3, g3, c4, c6, g6, c11, g7, c5, c0, c0r⟩ := id hC
  obtain ⟨d1, d2, d3, d4, d5⟩ := id hD
  have fold : beA fi0 A bi nc ns na nd acc [l] = stB (fun l => OkR A bi na nd (gt l)) (fun l => gxA A (fun k => nI (gt l k)) nc (edA fi0 A ns) na nd) acc l := rfl
  have rp : ∀ k, k < nd → isP p (ai 59 k) := fun k hk2 => by rw [h59 k hk2]; exact isP_nI (hl k hk2) (by have := hl k hk2; omega)
  have ru : ∀ j k, j < nd → k < nd → ai 59 j = ai 59 k → j = k := fun j k hj hk2 e => by
    rw [h59 j hj, h59 k hk2] at e
    exact un j k hj hk2 (nI_inj (by have := hl j hj; omega) (by have := hl k hk2; omega) e)
  have has : ∀ b, b < na → (hasR (ai 59) (A 7 b) (cnt (A 6) b) = true ↔ ∃ k, k < cnt (A 6) b ∧ nI (gt l k) = A 7 b) := fun b hb => by
    have := cnt_mono (kd := A 6) (show b ≤ na by omega)
    rw [hasR_i]
    constructor
    · rintro ⟨k, z1, z2⟩; exact ⟨k, z1, by rw [← h59 k (by rw [hw.1]; omega)]; exact z2⟩
    · rintro ⟨k, z1, z2⟩; exact ⟨k, z1, by rw [h59 k (by rw [hw.1]; omega)]; exact z2⟩
  unfold weighA
  refine Wa_go_s (A := A) (D := edA fi0 A ns) (Or.inr rfl) hN (fun k hk2 => (d1 k (by omega) (by omega) (by omega)).trans (hf k hk2)) (fun q hq2 => (d2 q (by omega) (by omega) (by omega)).trans (hA q hq2)) (fun s hs => by rw [d2 44 (by omega) (by omega) (by omega)]; exact h44 s hs) (fun t s ht hs => by rw [d2 (46 + t) (by omega) (by omega) (by omega)]; exact h46 t s ht hs) rp ru (fun fi2 ai2 al2 n wf ad z1 z2 z3 z4 z5 => if1 ?_) (fun fi2 ai2 al2 b wf z1 z2 z3 => if0 (hy _ _ _ _ ?_ (wf.2.1 59 (by omega))))
  · have en : n = na := by
      rcases Nat.lt_or_ge n na with q2 | q2
      · exfalso
        rcases z3 with q | q
        · omega
        · rw [d1 8 (by omega) (by omega) (by omega), h8] at q
          have st := (ha.1 n q2).2.2.2.2.1
          rw [i_lt, nT (by omega)] at q
          unfold isP at st
          omega
      · omega
    subst en
    have ok : OkR A bi n nd (gt l) := ⟨fun k hk2 x ed => hT k hk2 x (Relation.TransGen.single ed), fun b hb e => (has b hb).mp (z4 b hb e)⟩
    rw [stB_y ok] at fold
    have hrc : ∀ k, k < nd → ai 59 k = (fun k => nI (gt l k)) k := h59
    have wf1 : ∀ k, k ≠ 9 → k ≠ 10 → k ≠ 11 → fi2 k = fiB k := fun k a b c => (wf.1 k a b).trans (d1 k a b c)
    have wf2 : ∀ q, q ≠ 43 → q ≠ 59 → q ≠ 60 → ai2 q = aiB q := fun q a b c => (wf.2.1 q a).trans (d2 q a b c)
    have wf3 : ∀ q, q ≠ 41 → q ≠ 42 → al2 q = alB q := fun q a b => (wf.2.2 q a b).trans (d3 q a b)
    have had : Ad A (fun k => nI (gt l k)) nd (ai2 43) := ⟨fun i k a b c => ad.1 i k a b ((hrc k b).trans c), fun i a b => ad.2 i a (fun k c d => b k c ((hrc k c).symm.trans d))⟩
    have f4 : fi2 4 = nI nd := (wf1 4 (by omega) (by omega) (by omega)).trans ((hf 4 (by omega)).trans c4)
    refine Wa_greatestSize_s (A := A) (row := fun k => nI (gt l k)) (nd := nd) (nc := nc) (na := n) (D := edA fi0 A ns) ((wf1 7 (by omega) (by omega) (by omega)).trans ((hf 7 (by omega)).trans c7)) n2 had (fun k hk2 => by
      obtain ⟨a, a1, a2, a3, a4, a5⟩ := hN.row11 hk2
      rw [a4]; unfold isP at a5 ⊢; omega) (fun k hk2 => by rw [← h59 k hk2]; exact rp k hk2) (fun i k a b c => by
      rw [z5.2.2.2 i k a b ((hrc k b).trans c)]
      exact rsA_c hrc hw.1.symm n (Nat.le_refl _)) ?_
    have gn := (gxA_g (A := A) (row := fun k => nI (gt l k)) (nc := nc) (D := edA fi0 A ns) (na := n) nd).1
    generalize gxA A (fun k => nI (gt l k)) nc (edA fi0 A ns) n nd = g at fold gn ⊢
    unfold Se_keepIfLess_w
    rw [d4]
    refine jn0_o (acc.1 < 0 ∨ g < acc.1) (fun up => nm_i (nm_i ?_)) (fun J hJ => br_i Iff.rfl (fun z => hJ (Or.inl z)) (fun z => br_i Iff.rfl (fun z1 => hy _ _ _ _ ⟨wf1, wf2, wf3, ?_, ?_⟩ (wf.2.1 59 (by omega))) (fun z1 => hJ (Or.inr (by rw [l_lt]; rw [l_le] at z1; omega)))))
    · rw [if_pos up] at fold
      rw [va_n _ _ (show 4 ≠ 11 by omega), f4, nC (show nd < 2147483648 by omega), show (0 : Int32).toNatClampNeg = 0 from rfl]
      refine ⟨by rw [i_lt, nT (by omega), show (0 : Int32).toInt = 0 from rfl]; omega, by omega, by omega, nm_i (hy _ _ _ _ ⟨fun k a b c => by rw [va_n _ _ c]; exact wf1 k a b c, fun q a b c => by rw [va_n _ _ c]; exact wf2 q a b c, wf3, by rw [va_s, fold], Or.inr ⟨by rw [fold]; exact gn, by rw [va_s], fun k hk2 => ?_⟩⟩ ?_)⟩
      · rw [va_s, pk_cpy_in (by omega) (by omega), fold, wf.2.1 59 (by omega)]
        rw [show 0 + (k - 0) = k by omega]; exact h59 k hk2
      · rw [va_n _ _ (show 59 ≠ 60 by omega)]; exact wf.2.1 59 (by omega)
    · rw [if_neg (show ¬ (acc.1 < 0 ∨ g < acc.1) by
        rintro (y | y)
        · exact z y
        · rw [l_lt] at y; rw [l_le] at z1; omega)] at fold
      rw [fold]; exact d4
    · rw [if_neg (show ¬ (acc.1 < 0 ∨ g < acc.1) by
        rintro (y | y)
        · exact z y
        · rw [l_lt] at y; rw [l_le] at z1; omega)] at fold
      rw [fold]
      rcases d5 with y | y
      · exact Or.inl y
      · exact Or.inr ⟨y.1, by rw [wf.1 11 (by omega) (by omega)]; exact y.2.1, by rw [wf.2.1 60 (by omega)]; exact y.2.2⟩
  · have no : ¬ OkR A bi na nd (gt l) := fun ok => z3 ((has b z1).mpr (ok.2 b z1 z2))
    rw [stB_n no] at fold
    rw [fold]
    refine ⟨fun k a b c => (wf.1 k a b).trans (d1 k a b c), fun q a b c => (wf.2.1 q a).trans (d2 q a b c), fun q a b => (wf.2.2 q a b).trans (d3 q a b), d4, ?_⟩
    rcases d5 with y | y
    · exact Or.inl y
    · exact Or.inr ⟨y.1, by rw [wf.1 11 (by omega) (by omega)]; exact y.2.1, by rw [wf.2.1 60 (by omega)]; exact y.2.2⟩
theorem beA_app {acc : Int64 × List Nat} {L1 L2 : List (List Nat)} : beA fi0 A bi nc ns na nd acc (L1 ++ L2) = beA fi0 A bi nc ns na nd (beA fi0 A bi nc ns na nd acc L1) L2 := by
  unfold beA; rw [List.foldl_append]
theorem Se_tryFrom_s (hN : RlN p nc ns na nd nr no fi0 A al0 gi bi bl) (hns : 0 < ns) (hf : ∀ k, k < 8 → fiB k = fi0 k) (h8 : fiB 8 = nI (ns - 1)) (hA : ∀ q, q < 43 → aiB q = A q) (h44 : ∀ s, s < ns → aiB 44 s = crA A (edA fi0 A ns - A 5 s) nc) (h46 : ∀ t s, t < ns → s ≤ t → aiB (46 + t) s = crA A (A 5 t - A 5 s) nc) {ab : Int32} (hab : ∀ x, x < 32 → (bt ab x = true ↔ ∃ k, k < nd ∧ A 10 k = nI x)) :
    ∀ (f nR : Nat) (pre : List Nat) (fi : Nat → Int32) (fl : Nat → Int64) (ai : Nat → Nat → Int32) (al : Nat → Nat → Int64) (acc : Int64 × List Nat) (us : Int32) (K : (Nat → Int32) → (Nat → Int64) → (Nat → Nat → Int32) → (Nat → Nat → Int64) → Prop), f < nR → pre.length + f = nd → (∀ k, k < pre.length → gt pre k < p) → (∀ j k, j < pre.length → k < pre.length → gt pre j = gt pre k → j = k) → (∀ k, k < pre.length → ∀ x, Rh bi x (gt pre k) → ∃ j, j < k ∧ gt pre j = x) → (∀ x, x < 32 → (bt us x = true ↔ ∃ k, k < pre.length ∧ gt pre k = x)) → Ds fiB aiB alB nd acc fi fl ai al → (∀ k, k < pre.length → ai 59 k = nI (gt pre k)) →
      (∀ fi' fl' ai' al', Ds fiB aiB alB nd (beA fi0 A bi nc ns na nd acc (dfs (sR (A 10) nd) f pre)) fi' fl' ai' al' → (∀ k, k < pre.length → ai' 59 k = nI (gt pre k)) → K fi' fl' ai' al') → Se_tryFrom_w nR fi fl ai al (nI pre.length) ab us K := by
  obtain ⟨hn, hC, hg, hk, hd, ha, hw, hf0, he, ho, hr0, hq⟩ := id hN
  obtain ⟨n1, n2, n3, n4, n5, n6, n7, n8⟩ := id hn
  obtain ⟨c7, g0, c1, g1, c2, g2, c3, g3, c4, c6, g6, c11, g7, c5, c0, c0r⟩ := id hC
  intro f
  induction f with
  | zero =>
    intro nR pre fi fl ai al acc us K hR hl hp un hT hus hD h59 hy
    obtain ⟨m, rfl⟩ : ∃ m, nR = m + 1 := ⟨nR - 1, by omega⟩
    have e : pre.length = nd := by omega
    rw [e] at hp un hT h59 hy ⊢
    unfold Se_tryFrom_w
    refine jn0_o True (fun _ => ?_) (fun J hJ => ?_)
    · exact weighA_s (l := pre) hN hns hf h8 hA h44 h46 hD h59 hp un hT (fun fi' fl' ai' al' d e59 => hy fi' fl' ai' al' d (fun k hk2 => by rw [e59]; exact h59 k hk2))
    · rw [hD.1 4 (by omega) (by omega) (by omega), hf 4 (by omega), c4]
      exact br_n (by omega) (by omega) (fun _ => hJ trivial) (fun z => absurd z (Nat.lt_irrefl _))
  | succ f ih =>
    intro nR pre fi fl ai al acc us K hR hl hp un hT hus hD h59 hy
    obtain ⟨m, rfl⟩ : ∃ m, nR = m + 1 := ⟨nR - 1, by omega⟩
    unfold Se_tryFrom_w
    refine jn0_o False (fun z => z.elim) (fun J hJ => ?_)
    rw [hD.1 4 (by omega) (by omega) (by omega), hf 4 (by omega), c4]
    refine br_n (by omega) (by omega) (fun z => by omega) (fun z => ?_)
    refine br_i (nI_lt' (c := 6) (m := 6) rfl (by omega) (by omega)) (fun z6 => nm_i ?_) (fun z6 => by omega)
    refine lp5_c p (by omega) (fun i fi' fl' ai' al' => Ds fiB aiB alB nd (beA fi0 A bi nc ns na nd acc (upTo (fun i => if sR (A 10) nd i && !pre.contains i then dfs (sR (A 10) nd) f (pre ++ [i]) else []) i)) fi' fl' ai' al' ∧ (∀ k, k < pre.length → ai' 59 k = nI (gt pre k))) (fun L i fi2 fl2 ai2 al2 hi hI hL => ?_) 0 fi fl ai al (by omega) ⟨hD, h59⟩
    obtain ⟨iD, i59⟩ := hI
    rw [iD.1 7 (by omega) (by omega) (by omega), hf 7 (by omega), c7]
    refine br_n (by omega) (by omega) (fun q => ?_) (fun q => ?_)
    · obtain rfl : i = p := by omega
      refine hy fi2 fl2 ai2 al2 ?_ i59
      rw [dfs_s, upTo_c (p := i) 6 n2 (fun j h1 h2 => ?_)]
      · exact iD
      · show (if sR (A 10) nd j && !pre.contains j then dfs (sR (A 10) nd) f (pre ++ [j]) else []) = []
        rw [sR_6 h2]
        have : hasR (A 10) (nI j) nd = false := by
          cases u : hasR (A 10) (nI j) nd with
          | false => rfl
          | true =>
            obtain ⟨k, k1, k2⟩ := (hasR_i nd).mp u
            have := (hN.rowP k k1).2
            rw [k2, nT (by omega)] at this
            omega
        rw [this]; rfl
    · refine SS_hasBit_s (by omega) ?_
      have bb : bt (ab &&& (us ^^^ (-1))) i = true ↔ (sR (A 10) nd i && !pre.contains i) = true := by
        rw [b_and, b_xor, b_m1 i (by omega), Bool.and_eq_true, Bool.and_eq_true, hab i (by omega), sR_6 (by omega), hasR_i]
        have e1 : (bt us i ^^ true) = true ↔ ¬ bt us i = true := by cases bt us i <;> decide
        have e2 : (!pre.contains i) = true ↔ pre.contains i = false := by cases pre.contains i <;> decide
        rw [e1, e2, hus i (by omega), con_f]
        exact ⟨fun ⟨a, b⟩ => ⟨a, fun k h1 h2 => b ⟨k, h1, h2⟩⟩, fun ⟨a, b⟩ => ⟨a, fun ⟨k, h1, h2⟩ => b k h1 h2⟩⟩
      have up1 : upTo (fun i => if sR (A 10) nd i && !pre.contains i then dfs (sR (A 10) nd) f (pre ++ [i]) else []) (i + 1) = upTo (fun i => if sR (A 10) nd i && !pre.contains i then dfs (sR (A 10) nd) f (pre ++ [i]) else []) i ++ (if sR (A 10) nd i && !pre.contains i then dfs (sR (A 10) nd) f (pre ++ [i]) else []) := rfl
      refine jn4_o (fun fi' fl' ai' al' => Ds fiB aiB alB nd (beA fi0 A bi nc ns na nd acc (upTo (fun i => if sR (A 10) nd i && !pre.contains i then dfs (sR (A 10) nd) f (pre ++ [i]) else []) (i + 1))) fi' fl' ai' al' ∧ (∀ k, k < pre.length → ai' 59 k = nI (gt pre k))) (fun fi' fl' ai' al' hY => nm_i ?_) (fun J2 hJ2 => ?_)
      · rw [nI_p1]; exact hL _ _ _ _ q hY
      · rw [up1, beA_app] at hJ2
        generalize beA fi0 A bi nc ns na nd acc (upTo (fun i => if sR (A 10) nd i && !pre.contains i then dfs (sR (A 10) nd) f (pre ++ [i]) else []) i) = ac1 at iD hJ2
        refine br_b (fun e1 => ?_) (fun e1 => hJ2 _ _ _ _ ⟨?_, i59⟩)
        · have c1 := bb.mp e1
          rw [if_pos c1] at hJ2
          rw [Bool.and_eq_true] at c1
          have nin : ∀ k, k < pre.length → gt pre k ≠ i := con_f.mp (by have := c1.2; cases u : pre.contains i <;> rw [u] at this <;> first | rfl | cases this)
          refine Gi_mayFollow_s (by omega) (br_b (fun e2 => ?_) (fun e2 => hJ2 _ _ _ _ ⟨?_, i59⟩))
          · rw [iD.2.1 39 (by omega) (by omega) (by omega), hA 39 (by omega)] at e2
            have e3 := b_sub.mp e2
            have len : (pre ++ [i]).length = pre.length + 1 := by rw [List.length_append, List.length_singleton]
            rw [nC (show pre.length < 2147483648 by omega), nI_p1]
            refine ⟨vp_in_nI (by omega) (by omega), nm_i ?_⟩
            have := ih m (pre ++ [i]) fi2 fl2 (va_up ai2 59 (upd (ai2 59) pre.length (nI i))) al2 ac1 (us ||| ((1 : Int32) <<< (nI i &&& 31))) (fun fi' fl' ai' al' => J2 fi' fl' ai' al') (by omega) (by rw [len]; omega) (fun k hk2 => ?_) (fun j k hj hk2 e => ?_) (fun k hk2 x hx => ?_) (fun x hx => ?_) ⟨iD.1, fun q a b c => by rw [va_n _ _ b]; exact iD.2.1 q a b c, iD.2.2.1, iD.2.2.2.1, ?_⟩ (fun k hk2 => ?_) (fun fi' fl' ai' al' d e59 => hJ2 _ _ _ _ ⟨d, fun k hk2 => ?_⟩)
            · rw [len] at this; exact this
            · rw [len] at hk2
              by_cases u : k = pre.length
              · rw [u, gt_ap2]; exact q
              · rw [gt_ap1 (by omega)]; exact hp k (by omega)
            · rw [len] at hj hk2
              by_cases u : j = pre.length
              · by_cases v : k = pre.length
                · omega
                · rw [u, gt_ap2, gt_ap1 (by omega)] at e; exact absurd e.symm (nin k (by omega))
              · by_cases v : k = pre.length
                · rw [v, gt_ap2, gt_ap1 (by omega)] at e; exact absurd e (nin j (by omega))
                · rw [gt_ap1 (by omega), gt_ap1 (by omega)] at e; exact un j k (by omega) (by omega) e
            · rw [len] at hk2
              by_cases u : k = pre.length
              · rw [u, gt_ap2] at hx
                have x6 := hx.lt
                obtain ⟨j, j1, j2⟩ := (hus x (by omega)).mp (e3 x (by omega) ((hf0.2.2.1 x i x6.1 (by omega)).mpr hx))
                exact ⟨j, by omega, by rw [gt_ap1 j1]; exact j2⟩
              · rw [gt_ap1 (by omega)] at hx
                obtain ⟨j, j1, j2⟩ := hT k (by omega) x hx
                exact ⟨j, j1, by rw [gt_ap1 (by omega)]; exact j2⟩
            · rw [b_or, b_bit (by omega) hx, Bool.or_eq_true, decide_eq_true_iff, hus x hx, len]
              constructor
              · rintro (⟨k, k1, k2⟩ | h)
                · exact ⟨k, by omega, by rw [gt_ap1 k1]; exact k2⟩
                · exact ⟨pre.length, by omega, by rw [gt_ap2, h]⟩
              · rintro ⟨k, k1, k2⟩
                by_cases u : k = pre.length
                · rw [u, gt_ap2] at k2; exact Or.inr k2.symm
                · rw [gt_ap1 (by omega)] at k2; exact Or.inl ⟨k, by omega, k2⟩
            · rcases iD.2.2.2.2 with y | y
              · exact Or.inl y
              · exact Or.inr ⟨y.1, y.2.1, by rw [va_n _ _ (show 60 ≠ 59 by omega)]; exact y.2.2⟩
            · rw [len] at hk2
              rw [va_s]
              by_cases u : k = pre.length
              · rw [u, pk_us, gt_ap2]
              · rw [pk_un u, gt_ap1 (by omega)]; exact i59 k (by omega)
            · rw [e59 k (by rw [len]; omega), gt_ap1 hk2]
          · have : beA fi0 A bi nc ns na nd ac1 (dfs (sR (A 10) nd) f (pre ++ [i])) = ac1 := by
              refine stB_id _ _ (fun l hl2 ok => e2 ?_)
              rw [iD.2.1 39 (by omega) (by omega) (by omega), hA 39 (by omega)]
              refine b_sub.mpr (fun x hx hb => ?_)
              rcases Nat.lt_or_ge x 6 with x6 | x6
              · have rh := (hf0.2.2.1 x i x6 (by omega)).mp hb
                obtain ⟨l1, l2⟩ := dfs_pre f (pre ++ [i]) l hl2
                rw [List.length_append, List.length_singleton] at l1 l2
                obtain ⟨j, j1, j2⟩ := OkR.tr ok rh pre.length (by omega) (by rw [l2 pre.length (by omega), gt_ap2])
                refine (hus x hx).mpr ⟨j, j1, ?_⟩
                rw [l2 j (by omega), gt_ap1 j1] at j2
                exact j2
              · rw [hf0.2.2.2.1 i x (by omega) x6] at hb; cases hb
            rw [this]; exact iD
        · rw [if_neg (fun u => e1 (bb.mpr u))]; exact iD
end CB
