/-! PURE: the reference's best order -/
/-- one row more is looked at -/
noncomputable def stB (Ok : List Nat → Prop) (G : List Nat → Int64) (acc : Int64 × List Nat) (l : List Nat) : Int64 × List Nat := @ite _ (Ok l) (Classical.propDecidable _) (if acc.1 < 0 ∨ G l < acc.1 then (G l, l) else acc) acc
theorem stB_y {Ok : List Nat → Prop} {G : List Nat → Int64} {acc : Int64 × List Nat} {l : List Nat} (h : Ok l) : stB Ok G acc l = if acc.1 < 0 ∨ G l < acc.1 then (G l, l) else acc := if_pos h
theorem stB_n {Ok : List Nat → Prop} {G : List Nat → Int64} {acc : Int64 × List Nat} {l : List Nat} (h : ¬ Ok l) : stB Ok G acc l = acc := if_neg h
theorem stB_id {Ok : List Nat → Prop} {G : List Nat → Int64} : ∀ (L : List (List Nat)) (acc : Int64 × List Nat), (∀ l, l ∈ L → ¬ Ok l) → L.foldl (stB Ok G) acc = acc := by
  intro L
  induction L with
  | nil => intro acc _; rfl
  | cons a L ih =>
    intro acc h
    show L.foldl (stB Ok G) (stB Ok G acc a) = acc
    rw [stB_n (h a (List.mem_cons_self ..))]
    exact ih acc (fun l hl => h l (List.mem_cons_of_mem _ hl))
theorem stB_nn {Ok : List Nat → Prop} {G : List Nat → Int64} (hG : ∀ l, 0 ≤ (G l).toInt) : ∀ (L : List (List Nat)) (acc : Int64 × List Nat), (0 ≤ acc.1.toInt ∨ ∃ l, l ∈ L ∧ Ok l) → 0 ≤ (L.foldl (stB Ok G) acc).1.toInt := by
  intro L
  induction L with
  | nil =>
    intro acc h
    rcases h with h | ⟨l, h, _⟩
    · exact h
    · cases h
  | cons a L ih =>
    intro acc h
    show 0 ≤ (L.foldl (stB Ok G) (stB Ok G acc a)).1.toInt
    refine ih _ ?_
    by_cases o : Ok a
    · left
      rw [stB_y o]
      by_cases q : acc.1 < 0 ∨ G a < acc.1
      · rw [if_pos q]; exact hG a
      · rw [if_neg q]
        rcases Int.lt_or_le acc.1.toInt 0 with z | z
        · exact absurd (Or.inl (l_lt.mpr z)) q
        · exact z
    · rw [stB_n o]
      rcases h with h | ⟨l, h1, h2⟩
      · exact Or.inl h
      · rcases List.mem_cons.mp h1 with z | z
        · rw [z] at h2; exact absurd h2 o
        · exact Or.inr ⟨l, z, h2⟩
/-- the parts of the row -/
def sR (row : Nat → Int32) (nd : Nat) : Nat → Bool := pS (hasR row (nI 0) nd) (hasR row (nI 1) nd) (hasR row (nI 2) nd) (hasR row (nI 3) nd) (hasR row (nI 4) nd) (hasR row (nI 5) nd)
theorem sR_6 {row : Nat → Int32} {nd i : Nat} (h : i < 6) : sR row nd i = hasR row (nI i) nd := by
  rcases (show i = 0 ∨ i = 1 ∨ i = 2 ∨ i = 3 ∨ i = 4 ∨ i = 5 by omega) with rfl | rfl | rfl | rfl | rfl | rfl <;> rfl
theorem sR_b {row : Nat → Int32} {nd i : Nat} (h : 6 ≤ i) : sR row nd i = false := by
  obtain ⟨j, rfl⟩ : ∃ j, i = j + 6 := ⟨i - 6, by omega⟩
  rfl
theorem cB_c {S T : Nat → Bool} : ∀ n, (∀ i, i < n → S i = T i) → cB S n = cB T n := by
  intro n
  induction n with
  | zero => intro _; rfl
  | succ n ih =>
    intro h
    show cB S n + _ = cB T n + _
    rw [ih (fun i hi => h i (by omega)), h n (by omega)]
theorem cB_one {S T : Nat → Bool} {w : Nat} (e1 : S w = false) (e2 : T w = true) (o : ∀ i, i ≠ w → T i = S i) : ∀ n, cB T n = cB S n + (if w < n then 1 else 0) := by
  intro n
  induction n with
  | zero => rfl
  | succ n ih =>
    show cB T n + (if T n = true then 1 else 0) = cB S n + (if S n = true then 1 else 0) + _
    rw [ih]
    by_cases q : n = w
    · rw [q, e1, e2, if_neg (Nat.lt_irrefl _), if_pos rfl, if_neg (by decide), if_pos (Nat.lt_succ_self _)]
    · rw [o n q]
      by_cases z : w < n
      · rw [if_pos z, if_pos (show w < n + 1 by omega)]; omega
      · rw [if_neg z, if_neg (show ¬ w < n + 1 by omega), Nat.add_zero, Nat.add_zero]
theorem cB_row {row : Nat → Int32} : ∀ n, (∀ k, k < n → isP 6 (row k)) → (∀ j k, j < n → k < n → row j = row k → j = k) → cB (fun i => hasR row (nI i) n) 6 = n := by
  intro n
  induction n with
  | zero => intro _ _; rfl
  | succ n ih =>
    intro hr un
    obtain ⟨w, w1, w2, w3⟩ := isP_of (hr n (by omega))
    have key := cB_c (S := fun i => hasR row (nI i) (n + 1)) (T := fun i => if i = w then true else hasR row (nI i) n) 6 (fun i hi => by
      show (hasR row (nI i) n || decide (row n = nI i)) = _
      by_cases q : i = w
      · rw [if_pos q, q, w3, decide_eq_true rfl, Bool.or_true]
      · rw [if_neg q, w3, decide_eq_false (fun z => q (nI_inj (by omega) (by omega) z).symm), Bool.or_false])
    have wn : hasR row (nI w) n = false := by
      cases z : hasR row (nI w) n with
      | false => rfl
      | true =>
        obtain ⟨k, k1, k2⟩ := (hasR_i n).mp z
        have := un k n (by omega) (by omega) (k2.trans w3.symm)
        omega
    rw [key, cB_one (S := fun i => hasR row (nI i) n) (w := w) wn (if_pos rfl) (fun i hi => if_neg hi) 6, if_pos w1, ih (fun k hk => hr k (by omega)) (fun j k hj hk => un j k (by omega) (by omega))]
theorem chk_row {row : Nat → Int32} {nd : Nat} (hr : ∀ k, k < nd → isP 6 (row k)) (un : ∀ j k, j < nd → k < nd → row j = row k → j = k) : chkL (sR row nd) nd (dfs (sR row nd) nd []) = true := by
  have h := chk_all (hasR row (nI 0) nd) (hasR row (nI 1) nd) (hasR row (nI 2) nd) (hasR row (nI 3) nd) (hasR row (nI 4) nd) (hasR row (nI 5) nd)
  have e : cB (pS (hasR row (nI 0) nd) (hasR row (nI 1) nd) (hasR row (nI 2) nd) (hasR row (nI 3) nd) (hasR row (nI 4) nd) (hasR row (nI 5) nd)) 6 = nd := by
    exact (cB_c (S := sR row nd) 6 (fun i hi => sR_6 hi)).trans (cB_row nd hr un)
  rw [e] at h
  exact h
/-- what the two sides' search comes to -/
noncomputable def beA (fi : Nat → Int32) (A bi : Nat → Nat → Int32) (nc ns na nd : Nat) (acc : Int64 × List Nat) (L : List (List Nat)) : Int64 × List Nat := L.foldl (stB (fun l => OkR A bi na nd (gt l)) (fun l => gxA A (fun k => nI (gt l k)) nc (edA fi A ns) na nd)) acc
section MB
variable {gi fi : Nat → Int32} {gl : Nat → Int64} {bi A : Nat → Nat → Int32} {bl al : Nat → Nat → Int64} {p nc ns na nd nr no : Nat}
theorem l_m1 : (-1 : Int64) < 0 := by decide
theorem Mo_best_s {K : Int64 → (Nat → Int32) → (Nat → Nat → Int32) → (Nat → Nat → Int64) → Prop} (hN : RlN p nc ns na nd nr no fi A al gi bi bl) (hex : 0 < nd → 0 ≤ (beA fi A bi nc ns na nd (-1, []) (dfs (sR (A 10) nd) nd [])).1.toInt)
    (h0 : nd = 0 → ∀ gi' bi', Km gi bi bl gi' bi' bl → K (-1000000000000000000) gi' bi' bl)
    (hy : 0 < nd → ∀ gi' bi' bl', (∀ k, k < 7 → gi' k = gi k) → gi' 7 = nI nd → (∀ q, q < 19 → bi' q = bi q) → (∀ k, k < nd → bi' 19 k = nI (gt (beA fi A bi nc ns na nd (-1, []) (dfs (sR (A 10) nd) nd [])).2 k)) → bl' 14 = bl 14 → K (beA fi A bi nc ns na nd (-1, []) (dfs (sR (A 10) nd) nd [])).1 gi' bi' bl') : Mo_best_w gi gl bi bl K := by
  obtain ⟨hn, hC, hg, hk, hd, ha, hw, hf, he, ho, hr0, hq⟩ := id hN
  obtain ⟨n1, n2, n3, n4, n5, n6, n7, n8⟩ := id hn
  have r6 : ∀ k, k < nd → isP 6 (A 10 k) := fun k h => by have := hN.rowP k h; unfold isP at this ⊢; omega
  have chk := chk_row r6 hw.2.2.1
  unfold chkL at chk
  rw [Bool.and_eq_true, Bool.and_eq_true, List.all_eq_true] at chk
  obtain ⟨⟨ck1, ck2⟩, ck3⟩ := chk
  unfold Mo_best_w
  refine hN.take (fun tk htk => ?_)
  rw [va_s]
  rcases Nat.eq_zero_or_pos nd with nd0 | nd0
  · rw [nd0, if_pos (show nI 0 = 0 from rfl)]
    exact h0 nd0 _ _ Km.take
  · have hex := hex nd0
    have hy := hy nd0
    rw [if_neg (show ¬ nI nd = 0 by rw [i_eq, nT (by omega), show (0 : Int32).toInt = 0 from rfl]; omega)]
    refine nm_i ?_
    generalize hL0 : dfs (sR (A 10) nd) nd [] = L0 at *
    -- the row is sorted
    refine lp2_c nd (by omega) (fun m b => (∀ q, q ≠ 20 → b q = va_up bi 20 tk q) ∧ ∃ r : Nat → Nat, (∀ k, k < nd → b 20 k = nI (r k)) ∧ (∀ k, k < nd → r k < 6 ∧ sR (A 10) nd (r k) = true) ∧ (∀ j k, j < nd → k < nd → r j = r k → j = k) ∧ (∀ k, k + 1 < m → r k < r (k + 1))) (fun L m b1 hm hI hL => ?_) 1 (va_up bi 20 tk) (by omega) ⟨fun _ _ => rfl, fun k => (A 10 k).toNatClampNeg, fun k hk2 => ?_, fun k hk2 => ?_, fun j k hj hk2 e => ?_, fun k h => by omega⟩
    · obtain ⟨i1, r, i2, i3, i4, i5⟩ := hI
      refine br_n (by omega) (by omega) (fun q => nm_i (nm_i ?_)) (fun q => ⟨vp_in_nI (by omega) (by omega), ?_⟩)
      · obtain rfl : m = nd := by omega
        -- the sorted row is the first
        have lm : ((List.range m).map r).length = m := by rw [List.length_map, List.length_range]
        have lg : ∀ k, k < m → gt ((List.range m).map r) k = r k := fun k hk2 => by
          rw [gt_lt (by rw [lm]; exact hk2), List.getElem_map, List.getElem_range]
        have mem : (List.range m).map r ∈ L0 := by
          rw [← hL0]
          refine dfs_mem (fun k hk2 => ?_) (fun j k hj hk2 e => ?_) m [] (by rw [lm]; simp) (fun k h => absurd h (Nat.not_lt_zero _))
          · rw [lm] at hk2; rw [lg k hk2]; exact i3 k hk2
          · rw [lm] at hj hk2; rw [lg j hj, lg k hk2] at e; exact i4 j k hj hk2 e
        have as : asc m ((List.range m).map r) = true := asc_i.mpr (fun k hk2 => by rw [lg k (by omega), lg (k + 1) hk2]; exact i5 k hk2)
        obtain ⟨l0, R0, e0⟩ : ∃ l0 R0, L0 = l0 :: R0 := by
          cases L0 with
          | nil => cases mem
          | cons a b => exact ⟨a, b, rfl⟩
        have first : ∀ k, k < m → gt l0 k = r k := by
          rw [e0] at mem ck1
          unfold hdOK at ck1
          rw [Bool.and_eq_true, List.all_eq_true] at ck1
          rcases List.mem_cons.mp mem with z | z
          · intro k hk2; rw [← z]; exact lg k hk2
          · have := ck1.2 _ z
            rw [as] at this; cases this
        have km1 : Km gi bi bl (va_up gi 8 (nI m)) b1 bl := (Km.take (tk := tk)).tr ⟨fun _ _ => rfl, fun q hq2 => i1 q (by omega), rfl⟩
        refine lp4_r (fun N least more b l => ∃ dn rs, L0 = dn ++ rs ∧ N = rs.length ∧ least = (beA fi A bi nc ns na m (-1, []) dn).1 ∧ ((beA fi A bi nc ns na m (-1, []) dn).1 = -1 ∨ (0 ≤ (beA fi A bi nc ns na m (-1, []) dn).1.toInt ∧ ∀ k, k < m → b 26 k = nI (gt (beA fi A bi nc ns na m (-1, []) dn).2 k))) ∧ Km gi bi bl (va_up gi 8 (nI m)) b l ∧ ((more = 0 ∧ rs = []) ∨ (more = 1 ∧ ∃ x rs', rs = x :: rs' ∧ ∀ k, k < m → b 20 k = nI (gt x k)))) (fun L2 N least more b l hI2 hL2 => ?_) L0.length (-1) 1 b1 bl ⟨[], L0, rfl, rfl, rfl, Or.inl rfl, km1, Or.inr ⟨rfl, l0, R0, e0, fun k hk2 => by rw [i2 k hk2, first k hk2]⟩⟩
        obtain ⟨dn, rs, a1, a2, a3, a4, a5, a6⟩ := hI2
        rcases a6 with ⟨rfl, rfl⟩ | ⟨rfl, x, rs', rfl, a7⟩
        · rw [if_pos rfl]
          rw [List.append_nil] at a1
          subst a1
          have nn : ∀ k, k < m → b 26 k = nI (gt (beA fi A bi nc ns na m (-1, []) L0).2 k) := by
            rcases a4 with z | z
            · rw [z] at hex; exact absurd hex (by decide)
            · exact z.2
          refine nm_i (nm_i ?_)
          rw [va_s]
          refine lp2_c m (by omega) (fun k b' => (∀ q, q ≠ 19 → b' q = b q) ∧ ∀ j, j < k → b' 19 j = nI (gt (beA fi A bi nc ns na m (-1, []) L0).2 j)) (fun L3 k b' hk2 hI3 hL3 => ?_) 0 b (by omega) ⟨fun _ _ => rfl, fun j h => absurd h (Nat.not_lt_zero _)⟩
          obtain ⟨u1, u2⟩ := hI3
          refine br_n (by omega) (by omega) (fun q3 => ?_) (fun q3 => ⟨vp_in_nI (by omega) (by omega), vp_in_nI (by omega) (by omega), nm_i (nm_i ?_)⟩)
          · rw [a3]
            refine hy _ b' l (fun k hk3 => ?_) (va_s _ _ _) (fun q hq2 => (u1 q (by omega)).trans (a5.2.1 q (by omega))) (fun j hj => u2 j (by omega)) a5.2.2
            rw [va_n _ _ (show k ≠ 7 by omega), va_n _ _ (show k ≠ 8 by omega)]
          · rw [nC (by omega), nI_p1]
            refine hL3 _ q3 ⟨fun q hq2 => by rw [va_n _ _ hq2]; exact u1 q hq2, fun j hj => ?_⟩
            rw [va_s]
            by_cases z : j = k
            · rw [z, pk_us, u1 26 (by omega)]; exact nn k q3
            · rw [pk_un z]; exact u2 j (by omega)
        · rw [if_neg (by decide)]
          have xin : x ∈ L0 := by rw [a1]; exact List.mem_append_right _ (List.mem_cons_self ..)
          obtain ⟨s1, s2, s3⟩ := seen_i (ck3 x xin)
          have xp : ∀ k, k < m → gt x k < p := fun k hk2 => by
            obtain ⟨z1, z2⟩ := s2 k hk2
            rw [sR_6 z1] at z2
            obtain ⟨j, j1, j2⟩ := (hasR_i m).mp z2
            have := (hN.rowP j j1).2
            rw [j2, nT (by omega)] at this
            omega
          have ch : chn m (x :: rs') = true := chn_app dn _ (by rw [← a1]; exact ck2)
          obtain ⟨-, cl, cn'⟩ := chn_c ch
          have fold : beA fi A bi nc ns na m (-1, []) (dn ++ [x]) = stB (fun l => OkR A bi na m (gt l)) (fun l => gxA A (fun k => nI (gt l k)) nc (edA fi A ns) na m) (beA fi A bi nc ns na m (-1, []) dn) x := by
            unfold beA
            rw [List.foldl_append]; rfl
          refine Mo_isAllowed_s hN a5 a7 (fun k hk2 => (s2 k hk2).1) (fun ok b2 f2 => ?_) (fun ok b2 f2 => ?_)
          · -- allowed
            have km2 : Km gi bi bl (va_up gi 8 (nI m)) b2 l := a5.tr ⟨fun _ _ => rfl, fun q hq2 => f2 q (by omega), rfl⟩
            refine jn3_o (fun least' b' l' => least' = (beA fi A bi nc ns na m (-1, []) (dn ++ [x])).1 ∧ ((beA fi A bi nc ns na m (-1, []) (dn ++ [x])).1 = -1 ∨ (0 ≤ (beA fi A bi nc ns na m (-1, []) (dn ++ [x])).1.toInt ∧ ∀ k, k < m → b' 26 k = nI (gt (beA fi A bi nc ns na m (-1, []) (dn ++ [x])).2 k))) ∧ Km gi bi bl (va_up gi 8 (nI m)) b' l' ∧ ∀ k, k < m → b' 20 k = nI (gt x k)) (fun least' b' l' hY => ?_) (fun J hJ => ?_)
            · obtain ⟨y1, y2, y3, y4⟩ := hY
              refine Mo_nextRow_s (va_s _ _ _) nd0 n6 y4 (fun k hk2 => (s2 k hk2).1) s3 (fun i j b'' ht v1 v2 => ?_) (fun last => ?_)
              · cases rs' with
                | nil =>
                  have := laOK_i.mp (cl rfl) i ht.1
                  have := ht.2.1
                  omega
                | cons x2 rs2 =>
                  obtain ⟨i', j', ht', hv⟩ := nxOK_i (cn' x2 rs2 rfl)
                  obtain ⟨rfl, rfl⟩ := tn_u ht ht'
                  refine hL2 (x2 :: rs2).length _ _ _ _ (by rw [a2]; exact Nat.lt_succ_self _) ⟨dn ++ [x], x2 :: rs2, by rw [a1]; simp, rfl, y1, ?_, y3.tr ⟨fun _ _ => rfl, fun q hq2 => v1 q (by omega), rfl⟩, Or.inr ⟨rfl, x2, rs2, rfl, fun k hk2 => by rw [v2 k hk2, hv k hk2]⟩⟩
                  rw [v1 26 (by omega)]; exact y2
              · cases rs' with
                | nil => exact hL2 0 _ _ _ _ (by rw [a2]; exact Nat.lt_succ_self _) ⟨dn ++ [x], [], by rw [a1]; simp, rfl, y1, y2, y3, Or.inl ⟨rfl, rfl⟩⟩
                | cons x2 rs2 =>
                  obtain ⟨i', j', ht', hv⟩ := nxOK_i (cn' x2 rs2 rfl)
                  have := last i' ht'.1
                  have := ht'.2.1
                  omega
            · rw [if_neg (by decide)]
              refine Mo_greatest_s (r := gt x) hN km2 (va_s _ _ _) (fun k hk2 => by rw [f2 20 (by omega)]; exact a7 k hk2) xp s3 (fun b3 l3 f3 f4 => ?_)
              have km3 : Km gi bi bl (va_up gi 8 (nI m)) b3 l3 := km2.tr ⟨fun _ _ => rfl, fun q hq2 => f3 q (by omega) (by omega), f4 14 (by omega) (by omega) (by omega)⟩
              have r3 : ∀ k, k < m → b3 20 k = nI (gt x k) := fun k hk2 => by rw [f3 20 (by omega) (by omega), f2 20 (by omega)]; exact a7 k hk2
              have gn := (gxA_g (A := A) (row := fun k => nI (gt x k)) (nc := nc) (D := edA fi A ns) (na := na) m).1
              rw [stB_y ok] at fold
              rw [a3]
              generalize gxA A (fun k => nI (gt x k)) nc (edA fi A ns) na m = g at fold gn ⊢
              refine jn0_o ((beA fi A bi nc ns na m (-1, []) dn).1 < 0 ∨ g < (beA fi A bi nc ns na m (-1, []) dn).1) (fun up => nm_i ?_) (fun J2 hJ2 => br_i Iff.rfl (fun z => hJ2 (Or.inl z)) (fun z => br_i Iff.rfl (fun z1 => ?_) (fun z1 => hJ2 (Or.inr (by rw [l_lt]; rw [l_le] at z1; omega)))))
              · rw [if_pos up] at fold
                refine lp2_c m (by omega) (fun k b' => (∀ q, q ≠ 26 → b' q = b3 q) ∧ ∀ j, j < k → b' 26 j = nI (gt x j)) (fun L3 k b' hk2 hI3 hL3 => ?_) 0 b3 (by omega) ⟨fun _ _ => rfl, fun j h => absurd h (Nat.not_lt_zero _)⟩
                obtain ⟨u1, u2⟩ := hI3
                refine br_n (by omega) (by omega) (fun q3 => ?_) (fun q3 => ⟨vp_in_nI (by omega) (by omega), vp_in_nI (by omega) (by omega), nm_i (nm_i ?_)⟩)
                · refine hJ _ _ _ ⟨by rw [fold], Or.inr ⟨by rw [fold]; exact gn, fun j hj => by rw [fold]; exact u2 j (by omega)⟩, km3.tr ⟨fun _ _ => rfl, fun q hq2 => u1 q (by omega), rfl⟩, fun j hj => by rw [u1 20 (by omega)]; exact r3 j hj⟩
                · rw [nC (by omega), nI_p1]
                  refine hL3 _ q3 ⟨fun q hq2 => by rw [va_n _ _ hq2]; exact u1 q hq2, fun j hj => ?_⟩
                  rw [va_s]
                  by_cases z : j = k
                  · rw [z, pk_us, u1 20 (by omega)]; exact r3 k q3
                  · rw [pk_un z]; exact u2 j (by omega)
              · rw [if_neg (show ¬ ((beA fi A bi nc ns na m (-1, []) dn).1 < 0 ∨ g < (beA fi A bi nc ns na m (-1, []) dn).1) by
                  rintro (y | y)
                  · exact z y
                  · rw [l_lt] at y; rw [l_le] at z1; omega)] at fold
                refine hJ _ _ _ ⟨by rw [fold], ?_, km3, r3⟩
                rw [fold]
                rcases a4 with y | y
                · exact Or.inl y
                · exact Or.inr ⟨y.1, fun k hk2 => by rw [f3 26 (by omega) (by omega), f2 26 (by omega)]; exact y.2 k hk2⟩
          · -- not allowed
            rw [stB_n ok] at fold
            refine jn3_o (fun least' b' l' => least' = (beA fi A bi nc ns na m (-1, []) (dn ++ [x])).1 ∧ ((beA fi A bi nc ns na m (-1, []) (dn ++ [x])).1 = -1 ∨ (0 ≤ (beA fi A bi nc ns na m (-1, []) (dn ++ [x])).1.toInt ∧ ∀ k, k < m → b' 26 k = nI (gt (beA fi A bi nc ns na m (-1, []) (dn ++ [x])).2 k))) ∧ Km gi bi bl (va_up gi 8 (nI m)) b' l' ∧ ∀ k, k < m → b' 20 k = nI (gt x k)) (fun least' b' l' hY => ?_) (fun J hJ => ?_)
            · obtain ⟨y1, y2, y3, y4⟩ := hY
              refine Mo_nextRow_s (va_s _ _ _) nd0 n6 y4 (fun k hk2 => (s2 k hk2).1) s3 (fun i j b'' ht v1 v2 => ?_) (fun last => ?_)
              · cases rs' with
                | nil =>
                  have := laOK_i.mp (cl rfl) i ht.1
                  have := ht.2.1
                  omega
                | cons x2 rs2 =>
                  obtain ⟨i', j', ht', hv⟩ := nxOK_i (cn' x2 rs2 rfl)
                  obtain ⟨rfl, rfl⟩ := tn_u ht ht'
                  refine hL2 (x2 :: rs2).length _ _ _ _ (by rw [a2]; exact Nat.lt_succ_self _) ⟨dn ++ [x], x2 :: rs2, by rw [a1]; simp, rfl, y1, ?_, y3.tr ⟨fun _ _ => rfl, fun q hq2 => v1 q (by omega), rfl⟩, Or.inr ⟨rfl, x2, rs2, rfl, fun k hk2 => by rw [v2 k hk2, hv k hk2]⟩⟩
                  rw [v1 26 (by omega)]; exact y2
              · cases rs' with
                | nil => exact hL2 0 _ _ _ _ (by rw [a2]; exact Nat.lt_succ_self _) ⟨dn ++ [x], [], by rw [a1]; simp, rfl, y1, y2, y3, Or.inl ⟨rfl, rfl⟩⟩
                | cons x2 rs2 =>
                  obtain ⟨i', j', ht', hv⟩ := nxOK_i (cn' x2 rs2 rfl)
                  have := last i' ht'.1
                  have := ht'.2.1
                  omega
            · rw [if_pos rfl]
              refine hJ _ _ _ ⟨by rw [fold]; exact a3, ?_, a5.tr ⟨fun _ _ => rfl, fun q hq2 => f2 q (by omega), rfl⟩, fun k hk2 => by rw [f2 20 (by omega)]; exact a7 k hk2⟩
              rw [fold, f2 26 (by omega)]; exact a4
      · -- one part is put in its place
        refine nm_i ?_
        rw [nC (show m < 2147483648 by omega), i2 m q]
        refine zw_lp2_m (fun y b => ∃ j r', y = nI j ∧ j ≤ m ∧ (∀ q, q ≠ 20 → b q = va_up bi 20 tk q) ∧ (∀ k, k < nd → k ≠ j → b 20 k = nI (r' k)) ∧ r' j = r m ∧ (∀ k, k < nd → r' k < 6 ∧ sR (A 10) nd (r' k) = true) ∧ (∀ j k, j < nd → k < nd → r' j = r' k → j = k) ∧ (∀ k, k + 1 < j → r' k < r' (k + 1)) ∧ (∀ k, j ≤ k → k < m → r' k < r' (k + 1)) ∧ (0 < j → j < m → r' (j - 1) < r' (j + 1))) (fun y _ => y.toNatClampNeg) (fun L2 y b2 hI2 hL2 => ?_) _ _ ⟨m, r, rfl, Nat.le_refl _, i1, fun k hk2 _ => i2 k hk2, rfl, i3, i4, i5, fun k h1 h2 => by omega, fun h1 h2 => by omega⟩
        obtain ⟨j, r', rfl, b0, b1', b2', b3, b4, b5, b6, b7, b8⟩ := hI2
        refine jn0_o (j = 0 ∨ r' (j - 1) < r m) (fun z => ?_) (fun J hJ => br_i (nI_le' (c := 0) (m := 0) rfl (by omega) (by omega)) (fun z => hJ (Or.inl (by omega))) (fun z => ?_))
        · rw [nC (show j < 2147483648 by omega), nI_p1]
          refine ⟨vp_in_nI (by omega) (by omega), nm_i (nm_i (hL _ q ⟨fun s hs => by rw [va_n _ _ hs]; exact b1' s hs, r', fun k hk2 => ?_, b4, b5, fun k hk2 => ?_⟩))⟩
          · rw [va_s]
            by_cases u : k = j
            · rw [u, pk_us, b3]
            · rw [pk_un u]; exact b2' k hk2 u
          · rcases Nat.lt_or_ge (k + 1) j with u | u
            · exact b6 k u
            · rcases Nat.lt_or_ge k j with u2 | u2
              · rcases z with z | z
                · omega
                · rw [show k + 1 = j by omega, b3, show k = j - 1 by omega]; exact z
              · exact b7 k u2 (by omega)
        · rw [nI_s1 (by omega), nC (show j - 1 < 2147483648 by omega), b2' (j - 1) (by omega) (by omega)]
          have l1 := (b4 (j - 1) (by omega)).1
          have l2 := (i3 m q).1
          refine ⟨vp_in_nI (by omega) (by omega), br_i (le_gt l1 l2) (fun le => hJ (Or.inr ?_)) (fun le => ⟨vp_in_nI (by omega) (by omega), vp_in_nI (by omega) (by omega), nm_i (nm_i ?_)⟩)⟩
          · have ne : r' (j - 1) ≠ r m := fun e => by
              rw [← b3] at e
              have := b5 (j - 1) j (by omega) (by omega) e
              omega
            omega
          · rw [nC (show j < 2147483648 by omega), nI_m1' (by omega)]
            refine hL2 _ _ ⟨j - 1, fun k => if k = j - 1 then r' j else if k = j then r' (j - 1) else r' k, rfl, by omega, fun s hs => by rw [va_n _ _ hs]; exact b1' s hs, fun k hk2 u => ?_, ?_, fun k hk2 => ?_, fun a c ha2 hc2 e => ?_, fun k hk2 => ?_, fun k h1 h2 => ?_, fun h1 h2 => ?_⟩ (by rw [nC (by omega), nC (by omega)]; omega)
            · rw [va_s]
              show _ = nI (if k = j - 1 then r' j else if k = j then r' (j - 1) else r' k)
              rw [if_neg u]
              by_cases u2 : k = j
              · rw [u2, pk_us, if_pos rfl]
              · rw [pk_un u2, if_neg u2]; exact b2' k hk2 u2
            · show (if j - 1 = j - 1 then r' j else _) = _
              rw [if_pos rfl]; exact b3
            · show (if k = j - 1 then r' j else if k = j then r' (j - 1) else r' k) < 6 ∧ sR (A 10) nd (if k = j - 1 then r' j else if k = j then r' (j - 1) else r' k) = true
              by_cases u : k = j - 1
              · rw [if_pos u]; exact b4 j (by omega)
              · rw [if_neg u]
                by_cases u2 : k = j
                · rw [if_pos u2]; exact b4 (j - 1) (by omega)
                · rw [if_neg u2]; exact b4 k hk2
            · have e : (if a = j - 1 then r' j else if a = j then r' (j - 1) else r' a) = (if c = j - 1 then r' j else if c = j then r' (j - 1) else r' c) := e
              by_cases u : a = j - 1
              · rw [if_pos u] at e
                by_cases v : c = j - 1
                · omega
                · rw [if_neg v] at e
                  by_cases v2 : c = j
                  · rw [if_pos v2] at e; have := b5 j (j - 1) (by omega) (by omega) e; omega
                  · rw [if_neg v2] at e; have := b5 j c (by omega) hc2 e; omega
              · rw [if_neg u] at e
                by_cases u2 : a = j
                · rw [if_pos u2] at e
                  by_cases v : c = j - 1
                  · rw [if_pos v] at e; have := b5 (j - 1) j (by omega) (by omega) e; omega
                  · rw [if_neg v] at e
                    by_cases v2 : c = j
                    · omega
                    · rw [if_neg v2] at e; have := b5 (j - 1) c (by omega) hc2 e; omega
                · rw [if_neg u2] at e
                  by_cases v : c = j - 1
                  · rw [if_pos v] at e; have := b5 a j ha2 (by omega) e; omega
                  · rw [if_neg v] at e
                    by_cases v2 : c = j
                    · rw [if_pos v2] at e; have := b5 a (j - 1) ha2 (by omega) e; omega
                    · rw [if_neg v2] at e; exact b5 a c ha2 hc2 e
            · show (if k = j - 1 then r' j else if k = j then r' (j - 1) else r' k) < (if k + 1 = j - 1 then r' j else if k + 1 = j then r' (j - 1) else r' (k + 1))
              rw [if_neg (show ¬ k = j - 1 by omega), if_neg (show ¬ k = j by omega), if_neg (show ¬ k + 1 = j - 1 by omega), if_neg (show ¬ k + 1 = j by omega)]
              exact b6 k (by omega)
            · show (if k = j - 1 then r' j else if k = j then r' (j - 1) else r' k) < (if k + 1 = j - 1 then r' j else if k + 1 = j then r' (j - 1) else r' (k + 1))
              rw [if_neg (show ¬ k + 1 = j - 1 by omega)]
              by_cases u : k = j - 1
              · rw [if_pos u, if_pos (show k + 1 = j by omega), b3]; omega
              · rw [if_neg u, if_neg (show ¬ k + 1 = j by omega)]
                by_cases u2 : k = j
                · rw [if_pos u2, u2]; exact b8 (by omega) (by omega)
                · rw [if_neg u2]; exact b7 k (by omega) h2
            · show (if j - 1 - 1 = j - 1 then r' j else if j - 1 - 1 = j then r' (j - 1) else r' (j - 1 - 1)) < (if j - 1 + 1 = j - 1 then r' j else if j - 1 + 1 = j then r' (j - 1) else r' (j - 1 + 1))
              rw [if_neg (show ¬ j - 1 - 1 = j - 1 by omega), if_neg (show ¬ j - 1 - 1 = j by omega), if_neg (show ¬ j - 1 + 1 = j - 1 by omega), if_pos (show j - 1 + 1 = j by omega)]
              have := b6 (j - 1 - 1) (by omega)
              rw [show j - 1 - 1 + 1 = j - 1 by omega] at this
              exact this
    · obtain ⟨w, w1, w2, w3⟩ := isP_of (r6 k hk2)
      rw [va_s, htk k hk2]
      show A 10 k = nI (A 10 k).toNatClampNeg
      rw [w3, nC w2]
    · obtain ⟨w, w1, w2, w3⟩ := isP_of (r6 k hk2)
      show (A 10 k).toNatClampNeg < 6 ∧ sR (A 10) nd (A 10 k).toNatClampNeg = true
      rw [w3, nC w2, sR_6 w1]
      exact ⟨w1, (hasR_i nd).mpr ⟨k, hk2, w3⟩⟩
    · obtain ⟨w, w1, w2, w3⟩ := isP_of (r6 k hk2)
      obtain ⟨u, u1, u2, u3⟩ := isP_of (r6 j hj)
      have e : (A 10 j).toNatClampNeg = (A 10 k).toNatClampNeg := e
      rw [w3, u3, nC w2, nC u2] at e
      exact hw.2.2.1 j k hj hk2 (by rw [w3, u3, e])
end MB
