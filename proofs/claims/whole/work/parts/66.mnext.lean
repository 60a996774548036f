/-! the reference: the next order, how many are good -/
theorem nxF_none {n : Nat} {f : Nat → Nat} (h : gK f (n - 1) = none) : nxF n f = none := by simp only [nxF, h]
theorem nxF_some {n k : Nat} {f : Nat → Nat} (h : gK f (n - 1) = some k) : nxF n f = some (rv n (sw f k (gO f (f k) (n - 1))) (k + 1) (n - 1)) := by simp only [nxF, h]
theorem nx_head {l : List Nat} {r : List (List Nat)} {n : Nat} (hl : l.length = n) (e : nxL l = r.head?) : (nxF n (lF l)).isSome = !r.isEmpty ∧ ∀ f', nxF n (lF l) = some f' → ∀ m, r.head? = some m → ∀ i, i < n → f' i = lF m i := by
  subst hl
  unfold nxL at e
  obtain hx | ⟨f, hx⟩ : nxF l.length (lF l) = none ∨ ∃ f, nxF l.length (lF l) = some f := by
    cases nxF l.length (lF l) with
    | none => exact Or.inl rfl
    | some f => exact Or.inr ⟨f, rfl⟩
  · rw [show nxF l.length (fun i => l.getD i 0) = none from hx] at e
    have e' : r.head? = none := e.symm
    cases r with
    | nil => exact ⟨by rw [hx]; rfl, fun f' z => by rw [hx] at z; cases z⟩
    | cons a b => simp at e'
  · rw [show nxF l.length (fun i => l.getD i 0) = some f from hx] at e
    have e' : r.head? = some ((List.range l.length).map f) := e.symm
    cases r with
    | nil => simp at e'
    | cons a b =>
      refine ⟨by rw [hx]; rfl, fun f' z m hm i hi => ?_⟩
      have z2 : f = f' := Option.some.inj (hx.symm.trans z)
      rw [List.head?_cons] at e' hm
      have a2 : a = (List.range l.length).map f := Option.some.inj e'
      have m2 : a = m := Option.some.inj hm
      rw [← m2, a2, ← z2]
      show f i = ((List.range l.length).map f).getD i 0
      rw [List.getD_eq_getElem?_getD, List.getElem?_map, List.getElem?_range hi]; rfl
theorem nx_ex {l : List Nat} {r : List (List Nat)} {n : Nat} (hl : l.length = n) (e : nxL l = r.head?) {m : List Nat} (hm : r.head? = some m) : ∃ f', nxF n (lF l) = some f' ∧ ∀ i, i < n → f' i = lF m i := by
  obtain ⟨a1, a2⟩ := nx_head hl e
  have hs : (nxF n (lF l)).isSome = true := by
    rw [a1]
    cases r with
    | nil => simp at hm
    | cons a b => rfl
  obtain ⟨f', hf'⟩ := Option.isSome_iff_exists.mp hs
  exact ⟨f', hf', a2 f' hf' m hm⟩
theorem t8_swaps (l : Launch) {g : zG} (hg : zAmOk g) {d : zD} {f : Nat → Nat} {n a b : Nat} (hn : n ≤ 6) (R : RW d f n) (ha : a < n) (hb : b < n) : zC l g mX8_swaps 1 [zr g 37, zi (a : Int), zi (b : Int)] d (fun r d' => r = none ∧ (zF [58] d d' ∧ RW d' (sw f a b) n)) := by
  have ea := R a ha
  have eb := R b hb
  refine zC_of (L := [(0, _), (1, _), (2, _)]) mk_X8_swaps (Nat.le_of_ble_eq_true rfl) hg rfl (fun x => ?_)
  refine z_aload_n 0 dX8_swaps_0 rfl rfl ?_
  refine z_getr fl_RX8_70 (by decide) rfl rfl dX8_swaps_1 ?_
  refine z_iload_n 1 dX8_swaps_4 rfl rfl ?_
  refine z_iald a (by decide) rfl rfl (by omega) (by decide) dX8_swaps_5 ?_
  refine z_istore_n (L' := [(0, _), (1, _), (2, _), (3, _)]) dX8_swaps_6 rfl (by decide) rfl rfl ?_
  refine z_aload_n 0 dX8_swaps_7 rfl rfl ?_
  refine z_getr fl_RX8_70 (by decide) rfl rfl dX8_swaps_8 ?_
  refine z_iload_n 1 dX8_swaps_11 rfl rfl ?_
  refine z_aload_n 0 dX8_swaps_12 rfl rfl ?_
  refine z_getr fl_RX8_70 (by decide) rfl rfl dX8_swaps_13 ?_
  refine z_iload_n 2 dX8_swaps_16 rfl rfl ?_
  refine z_iald b (by decide) rfl rfl (by omega) (by decide) dX8_swaps_17 ?_
  refine z_iast a (by decide) rfl rfl (by omega) (by decide) dX8_swaps_18 ?_
  refine z_aload_n 0 dX8_swaps_19 rfl rfl ?_
  refine z_getr fl_RX8_70 (by decide) rfl rfl dX8_swaps_20 ?_
  refine z_iload_n 2 dX8_swaps_23 rfl rfl ?_
  refine z_iload_n 3 dX8_swaps_24 rfl rfl ?_
  refine z_iast b (by decide) rfl rfl (by omega) (by decide) dX8_swaps_25 ?_
  refine z_vret rfl dX8_swaps_26 (⟨rfl, (zF.rf.up (by decide)).up (by decide), fun i hi => ?_⟩)
  show _ = ((if i = b then f a else if i = a then f b else f i : Nat) : Int)
  rw [zu_row, zu_row]
  by_cases e1 : i = b
  · rw [if_pos e1, if_pos e1]; exact ea
  · rw [if_neg e1, if_neg e1]
    by_cases e2 : i = a
    · rw [if_pos e2, if_pos e2]; exact eb
    · rw [if_neg e2, if_neg e2]; exact R i hi
def gnQ (d : zD) (n : Nat) (f : Nat → Nat) : Option Value → zD → Prop := fun r d' => r = some (zi (zb (nxF n f).isSome)) ∧ zF [58] d d' ∧ ∀ f', nxF n f = some f' → RW d' f' n
theorem t8_goesOn (l : Launch) {g : zG} (hg : zAmOk g) {d : zD} {h : Hl} (w : Wf h) (H : HM d h) {f : Nat → Nat} (R : RW d f (hN h)) (hf : ∀ i, i < hN h → f i < 16) : zC l g mX8_goesOn 2 [zr g 37] d (gnQ d (hN h) f) := by
  have w3 := w.2.2.1
  have h1 : d 38 1 = hN h := H.1.2.1
  have key3 : ∀ (x : zX) (k : Nat) (b0 : Int) (f0 : Nat → Nat), nxF (hN h) f = some f0 → ∀ (u a b : Nat) (d1 : zD) (f1 : Nat → Nat), zF [58] d d1 → RW d1 f1 (hN h) → rv u f1 a b = f0 → b - a ≤ u → a ≤ hN h → b < hN h → zV l x g mX8_goesOn 2 (gnQ d (hN h) f) 85 [(0, zr g 37), (1, zi (hN h : Int)), (2, zi (k : Int)), (3, zi b0), (4, zi (a : Int)), (5, zi (b : Int))] [] d1 := by
    intro x k b0 f0 hf0 u
    induction u with
    | zero =>
      intro a b d1 f1 F R1 hr hu ha hb
      refine z_iload 4 dX8_goesOn_85 rfl ?_
      refine z_iload 5 dX8_goesOn_87 rfl ?_
      refine z_icmp_ge 109 (by omega) (by omega) dX8_goesOn_89 (by decide) (fun h_89 => ?_) (fun h_89 => absurd h_89 (by omega))
      refine z_iconst dX8_goesOn_109 ?_
      refine z_bret (b := true) rfl dX8_goesOn_110 (⟨by rw [hf0]; rfl, F, fun f' e => ?_⟩)
      have e2 : f0 = f' := Option.some.inj (hf0.symm.trans e)
      rw [← e2, ← hr]
      exact R1
    | succ u ih =>
      intro a b d1 f1 F R1 hr hu ha hb
      refine z_iload 4 dX8_goesOn_85 rfl ?_
      refine z_iload 5 dX8_goesOn_87 rfl ?_
      refine z_icmp_ge 109 (by omega) (by omega) dX8_goesOn_89 (by decide) (fun h_89 => ?_) (fun h_89 => ?_)
      · refine z_iconst dX8_goesOn_109 ?_
        refine z_bret (b := true) rfl dX8_goesOn_110 (⟨by rw [hf0]; rfl, F, fun f' e => ?_⟩)
        have e2 : f0 = f' := Option.some.inj (hf0.symm.trans e)
        rw [← e2, ← hr, rv, if_neg (by omega)]
        exact R1
      · refine z_aload_n 0 dX8_goesOn_92 rfl rfl ?_
        refine z_iload 4 dX8_goesOn_93 rfl ?_
        refine z_iload 5 dX8_goesOn_95 rfl ?_
        refine z_cv (t8_swaps l hg (f := f1) (n := hN h) (a := a) (b := b) w3 R1 (by omega) (by omega)) mk_X8_swaps mi_X8_swaps ml_RX8_226 (by omega) (by decide) rfl rfl rfl rfl (Nat.le_of_ble_eq_true rfl) dX8_goesOn_97 (zvoid fun d_97 q_97 => ?_)
        obtain ⟨s1, s2⟩ := q_97
        refine z_iinc 5 (L' := [(0, _), (1, _), (2, _), (3, _), (4, _), (5, _)]) dX8_goesOn_100 (by decide) rfl rfl rfl ?_
        refine z_iinc 4 (L' := [(0, _), (1, _), (2, _), (3, _), (4, _), (5, _)]) dX8_goesOn_103 (by decide) rfl rfl rfl ?_
        refine z_goto 85 dX8_goesOn_106 (by decide) ?_
        refine z_LL _ ?_ (ih (a + 1) (b - 1) d_97 (sw f1 a b) (F.tr s1) s2 ?_ (by omega) (by omega) (by omega))
        · rw [show ((b - 1 : Nat) : Int) = (b : Int) + -1 by omega]; try rfl
        · rw [← hr, rv, if_pos (by omega)]
  have key2 : ∀ (x : zX) (k : Nat), gK f (hN h - 1) = some k → k + 1 < hN h → f k ≤ f (k + 1) → ∀ (o : Nat), k < o → o < hN h → gO f (f k) (hN h - 1) = gO f (f k) o → zV l x g mX8_goesOn 2 (gnQ d (hN h) f) 48 [(0, zr g 37), (1, zi (hN h : Int)), (2, zi (k : Int)), (3, zi (o : Int))] [] d := by
    intro x k hk hk1 hle o
    induction o with
    | zero => intro a1; omega
    | succ o ih =>
      intro ho ho2 hgo
      have eo := R (o + 1) ho2
      have ek := R k (by omega)
      have hfo := hf (o + 1) ho2
      have hfk := hf k (by omega)
      refine z_aload_n 0 dX8_goesOn_48 rfl rfl ?_
      refine z_getr fl_RX8_70 (by decide) rfl rfl dX8_goesOn_49 ?_
      refine z_iload_n 3 dX8_goesOn_52 rfl rfl ?_
      refine z_iald (o + 1) (by decide) rfl rfl (by omega) (by decide) dX8_goesOn_53 ?_
      rw [eo]
      refine z_aload_n 0 dX8_goesOn_54 rfl rfl ?_
      refine z_getr fl_RX8_70 (by decide) rfl rfl dX8_goesOn_55 ?_
      refine z_iload_n 2 dX8_goesOn_58 rfl rfl ?_
      refine z_iald k (by decide) rfl rfl (by omega) (by decide) dX8_goesOn_59 ?_
      rw [ek]
      refine z_icmp_ge 69 (by omega) (by omega) dX8_goesOn_60 (by decide) (fun h_60 => ?_) (fun h_60 => ?_)
      · refine z_aload_n 0 dX8_goesOn_69 rfl rfl ?_
        refine z_iload_n 2 dX8_goesOn_70 rfl rfl ?_
        refine z_iload_n 3 dX8_goesOn_71 rfl rfl ?_
        refine z_cv (t8_swaps l hg (f := f) (n := hN h) (a := k) (b := o + 1) w3 R (by omega) (by omega)) mk_X8_swaps mi_X8_swaps ml_RX8_226 (by omega) (by decide) rfl rfl rfl rfl (Nat.le_of_ble_eq_true rfl) dX8_goesOn_72 (zvoid fun d_72 q_72 => ?_)
        obtain ⟨s1, s2⟩ := q_72
        refine z_iload_n 2 dX8_goesOn_75 rfl rfl ?_
        refine z_iconst dX8_goesOn_76 ?_
        refine z_iadd dX8_goesOn_77 ?_
        refine z_istore (L' := [(0, _), (1, _), (2, _), (3, _), (4, _)]) dX8_goesOn_78 (by decide) rfl rfl ?_
        refine z_iload_n 1 dX8_goesOn_80 rfl rfl ?_
        refine z_iconst dX8_goesOn_81 ?_
        refine z_isub dX8_goesOn_82 ?_
        refine z_istore (L' := [(0, _), (1, _), (2, _), (3, _), (4, _), (5, _)]) dX8_goesOn_83 (by decide) rfl rfl ?_
        refine z_LL _ ?_ (key3 x k ((o + 1 : Nat) : Int) (rv (hN h) (sw f k (o + 1)) (k + 1) (hN h - 1)) ?_ (hN h) (k + 1) (hN h - 1) d_72 (sw f k (o + 1)) s1 s2 rfl (by omega) (by omega) (by omega))
        · rw [show ((hN h - 1 : Nat) : Int) = (hN h : Int) - 1 by omega]; try rfl
        · rw [nxF_some hk, hgo, gO, if_neg (by omega)]
      · refine z_iinc 3 (L' := [(0, _), (1, _), (2, _), (3, _)]) dX8_goesOn_63 (by decide) rfl rfl rfl ?_
        refine z_goto 48 dX8_goesOn_66 (by decide) ?_
        have hok : o ≠ k := fun z => by subst z; omega
        refine z_LL _ ?_ (ih (by omega) (by omega) (by rw [hgo, gO, if_pos (by omega)]))
        rw [show (o : Int) = ((o + 1 : Nat) : Int) + -1 by omega]; try rfl
  have key1 : ∀ (x : zX) (j : Nat), j < hN h → gK f (hN h - 1) = gK f j → zV l x g mX8_goesOn 2 (gnQ d (hN h) f) 11 [(0, zr g 37), (1, zi (hN h : Int)), (2, zi ((j : Int) - 1))] [] d := by
    intro x j
    induction j with
    | zero =>
      intro hj hgk
      refine z_iload_n 2 dX8_goesOn_11 rfl rfl ?_
      refine z_if_lt 38 (by omega) dX8_goesOn_12 (by decide) (fun h_12 => ?_) (fun h_12 => absurd h_12 (by omega))
      refine z_iload_n 2 dX8_goesOn_38 rfl rfl ?_
      refine z_if_ge 44 (by omega) dX8_goesOn_39 (by decide) (fun h_39 => absurd h_39 (by omega)) (fun h_39 => ?_)
      refine z_iconst dX8_goesOn_42 ?_
      exact z_bret (b := false) rfl dX8_goesOn_43 (⟨by rw [nxF_none hgk]; rfl, zF.rf, fun f' e => (by rw [nxF_none hgk] at e; cases e)⟩)
    | succ j ih =>
      intro hj hgk
      refine z_LL [(0, zr g 37), (1, zi (hN h : Int)), (2, zi (j : Int))] (by rw [show ((j + 1 : Nat) : Int) - 1 = (j : Int) by omega]) ?_
      have ej := R j (by omega)
      have ej1 := R (j + 1) hj
      have hfj := hf j (by omega)
      have hfj1 := hf (j + 1) hj
      refine z_iload_n 2 dX8_goesOn_11 rfl rfl ?_
      refine z_if_lt 38 (by omega) dX8_goesOn_12 (by decide) (fun h_12 => absurd h_12 (by omega)) (fun h_12 => ?_)
      refine z_aload_n 0 dX8_goesOn_15 rfl rfl ?_
      refine z_getr fl_RX8_70 (by decide) rfl rfl dX8_goesOn_16 ?_
      refine z_iload_n 2 dX8_goesOn_19 rfl rfl ?_
      refine z_iald j (by decide) rfl rfl (by omega) (by decide) dX8_goesOn_20 ?_
      rw [ej]
      refine z_aload_n 0 dX8_goesOn_21 rfl rfl ?_
      refine z_getr fl_RX8_70 (by decide) rfl rfl dX8_goesOn_22 ?_
      refine z_iload_n 2 dX8_goesOn_25 rfl rfl ?_
      refine z_iconst dX8_goesOn_26 ?_
      refine z_iadd dX8_goesOn_27 ?_
      refine z_iald (j + 1) (by decide) rfl rfl (by omega) (by decide) dX8_goesOn_28 ?_
      rw [ej1]
      refine z_icmp_le 38 (by omega) (by omega) dX8_goesOn_29 (by decide) (fun h_29 => ?_) (fun h_29 => ?_)
      · refine z_iload_n 2 dX8_goesOn_38 rfl rfl ?_
        refine z_if_ge 44 (by omega) dX8_goesOn_39 (by decide) (fun h_39 => ?_) (fun h_39 => absurd h_39 (by omega))
        refine z_iload_n 1 dX8_goesOn_44 rfl rfl ?_
        refine z_iconst dX8_goesOn_45 ?_
        refine z_isub dX8_goesOn_46 ?_
        refine z_istore_n (L' := [(0, _), (1, _), (2, _), (3, _)]) dX8_goesOn_47 rfl (by decide) rfl rfl ?_
        refine z_LL _ ?_ (key2 x j (by rw [hgk, gK, if_neg (by omega)]) hj (by omega) (hN h - 1) (by omega) (by omega) rfl)
        rw [show ((hN h - 1 : Nat) : Int) = (hN h : Int) - 1 by omega]; try rfl
      · refine z_iinc 2 (L' := [(0, _), (1, _), (2, _)]) dX8_goesOn_32 (by decide) rfl rfl rfl ?_
        refine z_goto 11 dX8_goesOn_35 (by decide) ?_
        exact ih (by omega) (by rw [hgk, gK, if_pos (by omega)])
  refine zC_of (L := [(0, _)]) mk_X8_goesOn (Nat.le_of_ble_eq_true rfl) hg rfl (fun x => ?_)
  refine z_aload_n 0 dX8_goesOn_0 rfl rfl ?_
  refine z_getr fl_RX8_7 (by decide) rfl rfl dX8_goesOn_1 ?_
  refine z_iconst dX8_goesOn_4 ?_
  refine z_iald 1 (by decide) rfl rfl (by decide) (by decide) dX8_goesOn_5 ?_
  rw [h1]
  refine z_istore_n (L' := [(0, _), (1, _)]) dX8_goesOn_6 rfl (by decide) rfl rfl ?_
  refine z_iload_n 1 dX8_goesOn_7 rfl rfl ?_
  refine z_iconst dX8_goesOn_8 ?_
  refine z_isub dX8_goesOn_9 ?_
  refine z_istore_n (L' := [(0, _), (1, _), (2, _)]) dX8_goesOn_10 rfl (by decide) rfl rfl ?_
  by_cases h0 : hN h = 0
  · skip
    refine z_iload_n 2 dX8_goesOn_11 rfl rfl ?_
    refine z_if_lt 38 (by omega) dX8_goesOn_12 (by decide) (fun h_12 => ?_) (fun h_12 => absurd h_12 (by omega))
    refine z_iload_n 2 dX8_goesOn_38 rfl rfl ?_
    refine z_if_ge 44 (by omega) dX8_goesOn_39 (by decide) (fun h_39 => absurd h_39 (by omega)) (fun h_39 => ?_)
    refine z_iconst dX8_goesOn_42 ?_
    have hgk : gK f (hN h - 1) = none := by rw [h0]; rfl
    exact z_bret (b := false) rfl dX8_goesOn_43 (⟨by rw [nxF_none hgk]; rfl, zF.rf, fun f' e => (by rw [nxF_none hgk] at e; cases e)⟩)
  · refine z_LL _ ?_ (key1 x (hN h - 1) (by omega) rfl)
    rw [show ((hN h - 1 : Nat) : Int) - 1 = (hN h : Int) - 2 by omega]; try rfl
theorem t8_goodOrders (l : Launch) {g : zG} (hg : zAmOk g) {d : zD} {h : Hl} (w : Wf h) (H : HM d h) : zC l g mX8_goodOrders 4 [zr g 37] d (fun r d' => r = some (zi (wayC h (2 ^ hN h - 1) : Nat)) ∧ zF [58] d d') := by
  have w3 := w.2.2.1
  rw [wayC_GL w]
  have hlen : (GL h).length ≤ 46656 := by
    rw [← wayC_GL w]
    have := dfs_le w (pcN (2 ^ hN h - 1) (hN h)) (2 ^ hN h - 1)
    rw [pc_all] at this
    rw [wayC, pc_all]
    exact Nat.le_trans this (Nat.pow_le_pow_right (n := 6) (by decide) w3)
  have key : ∀ (x : zX) (rest : List (List Nat)) (c : Nat) (d1 : zD), zF [58] d d1 → lnkB rest = true → (∀ l ∈ rest, l.Perm (List.range (hN h))) → (∀ l, rest.head? = some l → RW d1 (lF l) (hN h)) → c + (rest.filter (fun l => goodO h (lF l))).length = (GL h).length → zV l x g mX8_goodOrders 4 (fun r d' => r = some (zi ((GL h).length : Nat)) ∧ zF [58] d d') 8 [(0, zr g 37), (1, zi (c : Int)), (2, zi (zb (!rest.isEmpty)))] [] d1 := by
    intro x rest
    induction rest with
    | nil =>
      intro c d1 F hl hp hr hc
      refine z_LL [(0, zr g 37), (1, zi (c : Int)), (2, zi 0)] rfl ?_
      refine z_iload_n 2 dX8_goodOrders_8 rfl rfl ?_
      refine z_if_eq 35 (by omega) dX8_goodOrders_9 (by decide) (fun h_9 => ?_) (fun h_9 => absurd rfl h_9)
      refine z_iload_n 1 dX8_goodOrders_35 rfl rfl ?_
      have hcc : c = (GL h).length := hc
      rw [hcc]
      exact z_iret rfl dX8_goodOrders_36 (⟨rfl, F⟩)
    | cons q rest ih =>
      intro c d1 F hl hp hr hc
      obtain ⟨hl1, hl2⟩ := lnk_tail hl
      have H1 : HM d1 h := HM.of H F (by decide)
      have R1 := hr q rfl
      have hq := hp q (by simp)
      obtain ⟨p1, p2, p3⟩ := perm_bits hq
      have hlt : ∀ i, i < hN h → lF q i < hN h := fun i hi => (p3 _).mp (gd_mem (by omega))
      obtain ⟨nx1, nx2⟩ := nx_head p1 hl2
      have hcl : c ≤ (GL h).length := by omega
      refine z_LL [(0, zr g 37), (1, zi (c : Int)), (2, zi 1)] rfl ?_
      refine z_iload_n 2 dX8_goodOrders_8 rfl rfl ?_
      refine z_if_eq 35 (by omega) dX8_goodOrders_9 (by decide) (fun h_9 => absurd h_9 (by decide)) (fun h_9 => ?_)
      refine z_iload_n 1 dX8_goodOrders_12 rfl rfl ?_
      refine z_aload_n 0 dX8_goodOrders_13 rfl rfl ?_
      refine z_cv (t8_isGood l hg w H1 R1 (fun i hi => by have := hlt i hi; omega)) mk_X8_isGood mi_X8_isGood ml_RX8_233 (by omega) (by decide) rfl rfl rfl rfl (Nat.le_of_ble_eq_true rfl) dX8_goodOrders_14 (zpure ?_)
      refine z_if_eq_b 24 dX8_goodOrders_17 (by decide) (fun h_17 => ?_) (fun h_17 => ?_)
      · refine z_iconst dX8_goodOrders_24 ?_
        refine z_iadd dX8_goodOrders_25 ?_
        refine z_istore_n (L' := [(0, _), (1, _), (2, _)]) dX8_goodOrders_26 rfl (by decide) rfl rfl ?_
        refine z_aload_n 0 dX8_goodOrders_27 rfl rfl ?_
        refine z_cv (t8_goesOn l hg w H1 R1 (fun i hi => by have := hlt i hi; omega)) mk_X8_goesOn mi_X8_goesOn ml_RX8_236 (by omega) (by decide) rfl rfl rfl rfl (Nat.le_of_ble_eq_true rfl) dX8_goodOrders_28 (fun r_28 d_28 q_28 => ?_)
        obtain ⟨rfl, s1, s2⟩ := q_28
        rw [nx1]
        show zV l x g mX8_goodOrders 4 _ _ _ [_] _
        refine z_istore_n (L' := [(0, _), (1, _), (2, _)]) dX8_goodOrders_31 rfl (by decide) rfl rfl ?_
        refine z_goto 8 dX8_goodOrders_32 (by decide) ?_
        refine z_LL _ ?_ (ih c d_28 (F.tr s1) hl1 (fun l hl => hp l (by simp [hl])) (fun m hm i hi => ?_) ?_)
        · rw [show ((c : Nat) : Int) = (c : Int) + 0 by omega]; try rfl
        · obtain ⟨f', hf', hf2⟩ := nx_ex p1 hl2 hm
          rw [← hf2 i hi]
          exact s2 f' hf' i hi
        · rw [List.filter_cons, if_neg (by rw [h_17]; decide)] at hc; exact hc
      · refine z_iconst dX8_goodOrders_20 ?_
        refine z_goto 25 dX8_goodOrders_21 (by decide) ?_
        refine z_iadd dX8_goodOrders_25 ?_
        refine z_istore_n (L' := [(0, _), (1, _), (2, _)]) dX8_goodOrders_26 rfl (by decide) rfl rfl ?_
        refine z_aload_n 0 dX8_goodOrders_27 rfl rfl ?_
        refine z_cv (t8_goesOn l hg w H1 R1 (fun i hi => by have := hlt i hi; omega)) mk_X8_goesOn mi_X8_goesOn ml_RX8_236 (by omega) (by decide) rfl rfl rfl rfl (Nat.le_of_ble_eq_true rfl) dX8_goodOrders_28 (fun r_28 d_28 q_28 => ?_)
        obtain ⟨rfl, s1, s2⟩ := q_28
        rw [nx1]
        show zV l x g mX8_goodOrders 4 _ _ _ [_] _
        refine z_istore_n (L' := [(0, _), (1, _), (2, _)]) dX8_goodOrders_31 rfl (by decide) rfl rfl ?_
        refine z_goto 8 dX8_goodOrders_32 (by decide) ?_
        refine z_LL _ ?_ (ih (c + 1) d_28 (F.tr s1) hl1 (fun l hl => hp l (by simp [hl])) (fun m hm i hi => ?_) ?_)
        · rfl
        · obtain ⟨f', hf', hf2⟩ := nx_ex p1 hl2 hm
          rw [← hf2 i hi]
          exact s2 f' hf' i hi
        · rw [List.filter_cons, if_pos h_17, List.length_cons] at hc; omega
  obtain ⟨hk1, hk2⟩ := PL_lnk (hN h) w3
  refine zC_of (L := [(0, _)]) mk_X8_goodOrders (Nat.le_of_ble_eq_true rfl) hg rfl (fun x => ?_)
  refine z_aload_n 0 dX8_goodOrders_0 rfl rfl ?_
  refine z_cv (t8_laysFirst l hg w H) mk_X8_laysFirst mi_X8_laysFirst ml_RX8_230 (by omega) (by decide) rfl rfl rfl rfl (Nat.le_of_ble_eq_true rfl) dX8_goodOrders_1 (zvoid fun d_1 q_1 => ?_)
  obtain ⟨s1, s2⟩ := q_1
  refine z_iconst dX8_goodOrders_4 ?_
  refine z_istore_n (L' := [(0, _), (1, _)]) dX8_goodOrders_5 rfl (by decide) rfl rfl ?_
  refine z_iconst dX8_goodOrders_6 ?_
  refine z_istore_n (L' := [(0, _), (1, _), (2, _)]) dX8_goodOrders_7 rfl (by decide) rfl rfl ?_
  refine z_LL _ ?_ (key x (PL (hN h)) 0 d_1 s1 hk1 (fun l hl => mem_PL.mp hl) (fun m hm i hi => ?_) ?_)
  · cases hpl : PL (hN h) with
    | nil => rw [hpl] at hk2; simp at hk2
    | cons a b => rfl
  · rw [hk2] at hm
    have em : List.range (hN h) = m := Option.some.inj hm
    rw [s2 i hi, ← em]
    show ((i : Nat) : Int) = (((List.range (hN h)).getD i 0 : Nat) : Int)
    rw [List.getD_eq_getElem?_getD, List.getElem?_range hi]; rfl
  · rw [Nat.zero_add]; rfl
