/-! PURE: rows: what the check gives; the reference's next row -/
theorem mem_upTo {g : Nat → List (List Nat)} {x : List Nat} : ∀ m, x ∈ upTo g m ↔ ∃ i, i < m ∧ x ∈ g i := by
  intro m
  induction m with
  | zero => exact ⟨fun h => (by cases h), fun ⟨i, h, _⟩ => absurd h (Nat.not_lt_zero _)⟩
  | succ m ih =>
    show x ∈ upTo g m ++ g m ↔ _
    rw [List.mem_append, ih]
    constructor
    · rintro (⟨i, h1, h2⟩ | h)
      · exact ⟨i, by omega, h2⟩
      · exact ⟨m, by omega, h⟩
    · rintro ⟨i, h1, h2⟩
      by_cases q : i = m
      · rw [q] at h2; exact Or.inr h2
      · exact Or.inl ⟨i, by omega, h2⟩
theorem gt_lt {l : List Nat} {k : Nat} (h : k < l.length) : gt l k = l[k] := by unfold gt; rw [List.getD_eq_getElem?_getD, List.getElem?_eq_getElem h]; rfl
theorem gt_ap1 {l : List Nat} {k x : Nat} (h : k < l.length) : gt (l ++ [x]) k = gt l k := by
  unfold gt; rw [List.getD_eq_getElem?_getD, List.getD_eq_getElem?_getD, List.getElem?_append_left h]
theorem gt_ap2 {l : List Nat} {x : Nat} : gt (l ++ [x]) l.length = x := by
  unfold gt; rw [List.getD_eq_getElem?_getD, List.getElem?_append_right (Nat.le_refl _), Nat.sub_self]; rfl
theorem gt_ext {l m : List Nat} (h : l.length = m.length) (e : ∀ k, k < l.length → gt l k = gt m k) : l = m := by
  refine List.ext_getElem h (fun k h1 h2 => ?_)
  have := e k h1
  rw [gt_lt h1, gt_lt h2] at this
  exact this
theorem mem_gt {l : List Nat} {x : Nat} : x ∈ l ↔ ∃ k, k < l.length ∧ gt l k = x := by
  constructor
  · intro h
    obtain ⟨k, h1, h2⟩ := List.getElem_of_mem h
    exact ⟨k, h1, by rw [gt_lt h1]; exact h2⟩
  · rintro ⟨k, h1, h2⟩
    rw [gt_lt h1] at h2
    rw [← h2]
    exact List.getElem_mem h1
theorem con_f {l : List Nat} {x : Nat} : l.contains x = false ↔ ∀ k, k < l.length → gt l k ≠ x := by
  rw [← Bool.not_eq_true, List.contains_iff_mem, mem_gt]
  exact ⟨fun h k h1 h2 => h ⟨k, h1, h2⟩, fun h ⟨k, h1, h2⟩ => h k h1 h2⟩
/-- rows below pre begin with pre -/
theorem dfs_pre {S : Nat → Bool} : ∀ f pre l, l ∈ dfs S f pre → l.length = pre.length + f ∧ ∀ k, k < pre.length → gt l k = gt pre k := by
  intro f
  induction f with
  | zero =>
    intro pre l h
    have : l = pre := List.mem_singleton.mp h
    subst this
    exact ⟨rfl, fun _ _ => rfl⟩
  | succ f ih =>
    intro pre l h
    rw [dfs_s, mem_upTo] at h
    obtain ⟨i, h1, h2⟩ := h
    by_cases c : (S i && !pre.contains i) = true
    · rw [if_pos c] at h2
      obtain ⟨g1, g2⟩ := ih _ _ h2
      rw [List.length_append, List.length_singleton] at g1 g2
      exact ⟨by omega, fun k hk => by rw [g2 k (by omega), gt_ap1 hk]⟩
    · rw [if_neg c] at h2; cases h2
theorem dfs_mem {S : Nat → Bool} {l : List Nat} (h6 : ∀ k, k < l.length → gt l k < 6 ∧ S (gt l k) = true) (un : ∀ j k, j < l.length → k < l.length → gt l j = gt l k → j = k) : ∀ f pre, l.length = pre.length + f → (∀ k, k < pre.length → gt l k = gt pre k) → l ∈ dfs S f pre := by
  intro f
  induction f with
  | zero =>
    intro pre h1 h2
    have : l = pre := gt_ext (by omega) (fun k hk => h2 k (by omega))
    rw [this]; exact List.mem_singleton.mpr rfl
  | succ f ih =>
    intro pre h1 h2
    rw [dfs_s, mem_upTo]
    refine ⟨gt l pre.length, (h6 _ (by omega)).1, ?_⟩
    have c : pre.contains (gt l pre.length) = false := con_f.mpr (fun k hk e => by
      have := un k pre.length (by omega) (by omega) (by rw [h2 k hk, e])
      omega)
    rw [if_pos (by rw [(h6 _ (show pre.length < l.length by omega)).2, c]; rfl)]
    refine ih _ (by rw [List.length_append, List.length_singleton]; omega) (fun k hk => ?_)
    rw [List.length_append, List.length_singleton] at hk
    by_cases q : k = pre.length
    · rw [q, gt_ap2]
    · rw [gt_ap1 (by omega)]; exact h2 k (by omega)
theorem all_r {n : Nat} {f : Nat → Bool} : (List.range n).all f = true ↔ ∀ k, k < n → f k = true := by
  rw [List.all_eq_true]
  exact ⟨fun h k hk => h k (List.mem_range.mpr hk), fun h k hk => h k (List.mem_range.mp hk)⟩
theorem any_r {n : Nat} {f : Nat → Bool} : (List.range n).any f = true ↔ ∃ k, k < n ∧ f k = true := by
  rw [List.any_eq_true]
  exact ⟨fun ⟨k, h1, h2⟩ => ⟨k, List.mem_range.mp h1, h2⟩, fun ⟨k, h1, h2⟩ => ⟨k, List.mem_range.mpr h1, h2⟩⟩
theorem asc_i {n : Nat} {a : List Nat} : asc n a = true ↔ ∀ k, k + 1 < n → gt a k < gt a (k + 1) := by
  unfold asc
  rw [all_r]
  simp only [Bool.or_eq_true, decide_eq_true_iff]
  exact ⟨fun h k hk => by rcases h k (by omega) with q | q; omega; exact q, fun h k hk => by rcases Nat.lt_or_ge (k + 1) n with q | q; exact Or.inr (h k q); exact Or.inl q⟩
theorem laOK_i {n : Nat} {a : List Nat} : laOK n a = true ↔ ∀ k, k + 1 < n → gt a (k + 1) < gt a k := by
  unfold laOK
  rw [all_r]
  simp only [Bool.or_eq_true, decide_eq_true_iff]
  exact ⟨fun h k hk => by rcases h k (by omega) with q | q; omega; exact q, fun h k hk => by rcases Nat.lt_or_ge (k + 1) n with q | q; exact Or.inr (h k q); exact Or.inl q⟩
/-- the turn at i and j -/
def tn (n : Nat) (a : List Nat) (i j : Nat) : Prop := i + 1 < n ∧ gt a i < gt a (i + 1) ∧ (∀ k, i < k → k + 1 < n → gt a (k + 1) < gt a k) ∧ i < j ∧ j < n ∧ gt a i < gt a j ∧ (∀ k, j < k → k < n → gt a k < gt a i)
def tv (n : Nat) (a : List Nat) (i j k : Nat) : Nat := if k < i then gt a k else if k = i then gt a j else if n + i - k = j then gt a i else gt a (n + i - k)
theorem tn_u {n : Nat} {a : List Nat} {i j i' j' : Nat} (h : tn n a i j) (g : tn n a i' j') : i = i' ∧ j = j' := by
  obtain ⟨h1, h2, h3, h4, h5, h6, h7⟩ := h
  obtain ⟨g1, g2, g3, g4, g5, g6, g7⟩ := g
  have e : i = i' := by
    rcases Nat.lt_trichotomy i i' with q | q | q
    · have := h3 i' q g1; omega
    · exact q
    · have := g3 i q h1; omega
  subst e
  refine ⟨rfl, ?_⟩
  rcases Nat.lt_trichotomy j j' with q | q | q
  · have := h7 j' q g5; omega
  · exact q
  · have := g7 j q h5; omega
theorem nxOK_i {n : Nat} {a b : List Nat} (h : nxOK n a b = true) : ∃ i j, tn n a i j ∧ ∀ k, k < n → gt b k = tv n a i j k := by
  unfold nxOK at h
  rw [any_r] at h
  obtain ⟨i, h1, h2⟩ := h
  rw [Bool.and_eq_true, Bool.and_eq_true, Bool.and_eq_true, all_r, any_r] at h2
  obtain ⟨⟨⟨h3, h4⟩, h5⟩, j, h6, h7⟩ := h2
  rw [Bool.and_eq_true, Bool.and_eq_true, all_r] at h7
  obtain ⟨⟨h8, h9⟩, h10⟩ := h7
  simp only [Bool.or_eq_true, Bool.and_eq_true, decide_eq_true_iff] at h3 h4 h5 h8 h9 h10
  refine ⟨i, j, ⟨h3, h4, fun k k1 k2 => ?_, h8, h6, h9, fun k k1 k2 => ?_⟩, fun k hk => (h10 k hk).2⟩
  · rcases h5 k (by omega) with (q | q) | q
    · omega
    · omega
    · exact q
  · rcases (h10 k k2).1 with q | q
    · omega
    · exact q
theorem seen_i {S : Nat → Bool} {n : Nat} {a : List Nat} (h : seen S n a = true) : a.length = n ∧ (∀ k, k < n → gt a k < 6 ∧ S (gt a k) = true) ∧ (∀ j k, j < n → k < n → gt a j = gt a k → j = k) := by
  unfold seen at h
  rw [Bool.and_eq_true, all_r] at h
  obtain ⟨h1, h2⟩ := h
  refine ⟨of_decide_eq_true h1, fun k hk => ?_, fun j k hj hk e => ?_⟩
  · have := h2 k hk
    rw [Bool.and_eq_true, Bool.and_eq_true, decide_eq_true_iff] at this
    exact this.1
  · have := h2 k hk
    rw [Bool.and_eq_true, all_r] at this
    have := this.2 j hj
    rw [Bool.or_eq_true, decide_eq_true_iff, decide_eq_true_iff] at this
    rcases this with q | q
    · exact q
    · exact absurd e q
theorem chn_c {n : Nat} {a : List Nat} {r : List (List Nat)} (h : chn n (a :: r) = true) : chn n r = true ∧ (r = [] → laOK n a = true) ∧ (∀ b r', r = b :: r' → nxOK n a b = true) := by
  unfold chn at h
  rw [Bool.and_eq_true] at h
  refine ⟨h.2, fun e => by rw [e] at h; exact h.1, fun b r' e => by rw [e] at h; exact h.1⟩
theorem chn_app {n : Nat} : ∀ (d r : List (List Nat)), chn n (d ++ r) = true → chn n r = true := by
  intro d
  induction d with
  | nil => intro r h; exact h
  | cons a d ih => intro r h; exact ih r (chn_c h).1
theorem nI_m1' {n : Nat} (h : 0 < n) : nI n + (-1 : Int32) = nI (n - 1) := by
  rw [show (-1 : Int32) = -(1 : Int32) from rfl, ← Int32.sub_eq_add_neg]; exact nI_s1 h
section NX
variable {gi : Nat → Int32} {gl : Nat → Int64} {bi : Nat → Nat → Int32} {bl : Nat → Nat → Int64} {n : Nat} {a : List Nat}
theorem le_gt {x y : Nat} (hx : x < 6) (hy : y < 6) : nI x ≤ nI y ↔ x ≤ y := le_nI rfl (by omega) (by omega)
theorem Mo_nextRow_s {K : Int32 → (Nat → Nat → Int32) → Prop} (h8 : gi 8 = nI n) (hn : 0 < n) (h6 : n ≤ 6) (hr : ∀ k, k < n → bi 20 k = nI (gt a k)) (ha : ∀ k, k < n → gt a k < 6) (un : ∀ j k, j < n → k < n → gt a j = gt a k → j = k)
    (hy : ∀ i j bi', tn n a i j → (∀ q, q ≠ 20 → bi' q = bi q) → (∀ k, k < n → bi' 20 k = nI (tv n a i j k)) → K 1 bi') (hno : (∀ k, k + 1 < n → gt a (k + 1) < gt a k) → K 0 bi) : Mo_nextRow_w gi gl bi bl K := by
  unfold Mo_nextRow_w
  rw [h8]
  refine nm_i ?_
  refine zw_lp1_m (fun x => (x = -1 ∧ ∀ k, k + 1 < n → gt a (k + 1) < gt a k) ∨ ∃ i, x = nI i ∧ i + 1 < n ∧ ∀ k, i < k → k + 1 < n → gt a (k + 1) < gt a k) (fun x => (x.toInt + 1).toNat) (fun L x hx hL => ?_) _ ?_
  · rcases hx with ⟨rfl, hx⟩ | ⟨i, rfl, hi, hx⟩
    · refine jn0_o True (fun _ => ?_) (fun J hJ => by rw [if_pos (by decide)]; exact hJ trivial)
      rw [if_neg (by decide)]
      exact hno hx
    · rw [nI_p1, nC (show i < 2147483648 by omega), nC (show i + 1 < 2147483648 by omega), hr i (by omega), hr (i + 1) (by omega)]
      refine jn0_o (gt a i < gt a (i + 1)) (fun up => ?_) (fun J hJ => ?_)
      · rw [if_pos (show (0 : Int32) ≤ nI i by rw [i_le, nT (by omega), show (0 : Int32).toInt = 0 from rfl]; omega)]
        refine nm_i ?_
        rw [nI_s1 hn]
        refine zw_lp1_m (fun y => ∃ j, y = nI j ∧ i < j ∧ j < n ∧ ∀ k, j < k → k < n → gt a k < gt a i) (fun y => y.toNatClampNeg) (fun L2 y hy2 hL2 => ?_) _ ⟨n - 1, rfl, by omega, by omega, fun k h1 h2 => by omega⟩
        obtain ⟨j, rfl, j1, j2, j3⟩ := hy2
        rw [nC (show j < 2147483648 by omega), hr j j2]
        refine ⟨vp_in_nI (by omega) (by omega), vp_in_nI (by omega) (by omega), br_i (le_gt (ha i (by omega)) (ha j j2)) (fun le => ⟨vp_in_nI (by omega) (by omega), nm_i ⟨vp_in_nI (by omega) (by omega), vp_in_nI (by omega) (by omega), nm_i ⟨vp_in_nI (by omega) (by omega), nm_i (nm_i (nm_i ?_))⟩⟩⟩) (fun le => nm_i ?_)⟩
        · have ne : gt a i ≠ gt a j := fun e => by have := un i j (by omega) j2 e; omega
          have t : tn n a i j := ⟨hi, up, hx, j1, j2, by omega, j3⟩
          -- the suffix is turned around
          rw [va_s]
          refine zw_lp3_m (fun x y bi' => ∃ t, x = nI (i + 1 + t) ∧ y = nI (n - 1 - t) ∧ t + i < n ∧ i + 1 + t ≤ n - 1 - t + 1 ∧ (∀ q, q ≠ 20 → bi' q = bi q) ∧ ∀ k, k < n → bi' 20 k = nI (if (i < k ∧ k < i + 1 + t) ∨ n - 1 - t < k then tv n a i j k else if k = i then gt a j else if k = j then gt a i else gt a k)) (fun x y _ => (y.toInt - x.toInt + 1).toNat) (fun L3 x y bi' hx3 hL3 => ?_) _ _ _ ⟨0, rfl, rfl, by omega, by omega, fun q hq => by rw [va_n _ _ hq, va_n _ _ hq], fun k hk => ?_⟩
          · obtain ⟨t', rfl, rfl, t1, t2, t3, t4⟩ := hx3
            refine br_i (le_nI rfl (by omega) (by omega)) (fun z => hy i j bi' t t3 (fun k hk => ?_)) (fun z => ?_)
            · rw [t4 k hk]
              by_cases c : (i < k ∧ k < i + 1 + t') ∨ n - 1 - t' < k
              · rw [if_pos c]
              · rw [if_neg c]
                congr 1
                unfold tv
                by_cases k1 : k < i
                · rw [if_pos k1, if_neg (show ¬ k = i by omega), if_neg (show ¬ k = j by omega)]
                · rw [if_neg k1]
                  by_cases k2 : k = i
                  · rw [if_pos k2, if_pos k2]
                  · rw [if_neg k2, if_neg k2, show n + i - k = k by omega]
            · have e1 : nI (n - 1 - t') + (-1 : Int32) = nI (n - 1 - (t' + 1)) := by rw [nI_m1' (by omega)]; congr 1
              rw [nC (show i + 1 + t' < 2147483648 by omega), nC (show n - 1 - t' < 2147483648 by omega)]
              refine ⟨vp_in_nI (by omega) (by omega), nm_i ⟨vp_in_nI (by omega) (by omega), vp_in_nI (by omega) (by omega), nm_i ⟨vp_in_nI (by omega) (by omega), nm_i (nm_i (nm_i ?_))⟩⟩⟩
              rw [nI_p1, e1, va_s]
              have d : (nI (n - 1 - (t' + 1))).toInt - (nI (i + 1 + t' + 1)).toInt + 1 < (nI (n - 1 - t')).toInt - (nI (i + 1 + t')).toInt + 1 := by
                rw [nT (by omega), nT (by omega), nT (by omega), nT (by omega)]; omega
              have d0 : 0 ≤ (nI (n - 1 - t')).toInt - (nI (i + 1 + t')).toInt := by rw [nT (by omega), nT (by omega)]; omega
              refine hL3 _ _ _ ⟨t' + 1, by rw [show i + 1 + t' + 1 = i + 1 + (t' + 1) by omega], rfl, by omega, by omega, fun q hq => by rw [va_n _ _ hq, va_n _ _ hq]; exact t3 q hq, fun k hk => ?_⟩ (by omega)
              rw [va_s]
              by_cases k1 : k = n - 1 - t'
              · subst k1
                rw [pk_us, t4 (i + 1 + t') (by omega), if_neg (show ¬ ((i < i + 1 + t' ∧ i + 1 + t' < i + 1 + t') ∨ n - 1 - t' < i + 1 + t') by omega), if_pos (show (i < n - 1 - t' ∧ n - 1 - t' < i + 1 + (t' + 1)) ∨ n - 1 - (t' + 1) < n - 1 - t' by omega)]
                congr 1
                unfold tv
                rw [if_neg (show ¬ i + 1 + t' = i by omega), if_neg (show ¬ n - 1 - t' < i by omega), if_neg (show ¬ n - 1 - t' = i by omega), show n + i - (n - 1 - t') = i + 1 + t' by omega]
              · rw [pk_un k1]
                by_cases k2 : k = i + 1 + t'
                · subst k2
                  rw [pk_us, t4 (n - 1 - t') (by omega), if_neg (show ¬ ((i < n - 1 - t' ∧ n - 1 - t' < i + 1 + t') ∨ n - 1 - t' < n - 1 - t') by omega), if_pos (show (i < i + 1 + t' ∧ i + 1 + t' < i + 1 + (t' + 1)) ∨ n - 1 - (t' + 1) < i + 1 + t' by omega)]
                  congr 1
                  unfold tv
                  rw [if_neg (show ¬ n - 1 - t' = i by omega), if_neg (show ¬ i + 1 + t' < i by omega), if_neg (show ¬ i + 1 + t' = i by omega), show n + i - (i + 1 + t') = n - 1 - t' by omega]
                · rw [pk_un k2, t4 k hk]
                  congr 1
                  by_cases c : (i < k ∧ k < i + 1 + t') ∨ n - 1 - t' < k
                  · rw [if_pos c, if_pos (show (i < k ∧ k < i + 1 + (t' + 1)) ∨ n - 1 - (t' + 1) < k by omega)]
                  · rw [if_neg c, if_neg (show ¬ ((i < k ∧ k < i + 1 + (t' + 1)) ∨ n - 1 - (t' + 1) < k) by omega)]
          · rw [va_s, if_neg (show ¬ ((i < k ∧ k < i + 1 + 0) ∨ n - 1 - 0 < k) by omega)]
            by_cases k1 : k = j
            · rw [k1, pk_us, if_neg (show ¬ j = i by omega), if_pos rfl]
            · rw [pk_un k1]
              by_cases k2 : k = i
              · rw [k2, pk_us, if_pos rfl]
              · rw [pk_un k2, if_neg k2, if_neg k1]; exact hr k hk
        · rw [nI_m1' (by omega)]
          have i1 : i + 1 < j := by
            rcases Nat.lt_or_ge (i + 1) j with q | q
            · exact q
            · have : j = i + 1 := by omega
              rw [this] at le; omega
          refine hL2 _ ⟨j - 1, rfl, by omega, by omega, fun k h1 h2 => ?_⟩ (by rw [nC (by omega), nC (by omega)]; omega)
          by_cases q : k = j
          · rw [q]; omega
          · exact j3 k (by omega) h2
      · rw [if_neg (show ¬ nI i < 0 by rw [i_lt, nT (by omega), show (0 : Int32).toInt = 0 from rfl]; omega)]
        have ne : gt a i ≠ gt a (i + 1) := fun e => by have := un i (i + 1) (by omega) hi e; omega
        refine ⟨vp_in_nI (by omega) (by omega), vp_in_nI (by omega) (by omega), br_i (le_gt (ha i (by omega)) (ha (i + 1) hi)) (fun le => hJ (by omega)) (fun le => nm_i ?_)⟩
        have all : ∀ k, i ≤ k → k + 1 < n → gt a (k + 1) < gt a k := fun k h1 h2 => by
          by_cases q : k = i
          · rw [q]; omega
          · exact hx k (by omega) h2
        rcases Nat.eq_zero_or_pos i with z | z
        · subst z
          refine hL _ (Or.inl ⟨by decide, fun k h => all k (by omega) h⟩) ?_
          rw [show nI 0 + (-1 : Int32) = -1 from by decide, show (-1 : Int32).toInt = -1 from rfl, nT (by omega)]; decide
        · rw [nI_m1' z]
          refine hL _ (Or.inr ⟨i - 1, rfl, by omega, fun k h1 h2 => all k (by omega) h2⟩) ?_
          rw [nT (by omega), nT (by omega)]; omega
  · rcases Nat.lt_or_ge 1 n with q | q
    · refine Or.inr ⟨n - 2, ?_, by omega, fun k h1 h2 => by omega⟩
      exact nS (k := 2) rfl (by omega) (by omega)
    · refine Or.inl ⟨?_, fun k h => by omega⟩
      rw [show n = 1 by omega]; decide
end NX
