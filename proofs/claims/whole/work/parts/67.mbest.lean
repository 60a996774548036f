/-! the reference: the best order, and that the class's search finds the same -/
theorem PL_rk : ∀ n, n ≤ 6 → (PL n).length ≤ 720 ∧ (PL n).all (fun r => decide (rkN (kyN r 0) n = pkN (fun i => r.getD i 0) n n)) = true := by decide +kernel
theorem rk_ky {n : Nat} (hn : n ≤ 6) {r : List Nat} (p : r.Perm (List.range n)) : rkN (kyN r 0) n = pkN (lF r) n n :=
  of_decide_eq_true (List.all_eq_true.mp (PL_rk n hn).2 r (mem_PL.mpr p))
theorem pw_inj {f : List Nat → Nat} : ∀ {l : List (List Nat)}, l.Pairwise (fun a b => f a < f b) → ∀ a, a ∈ l → ∀ b, b ∈ l → f a = f b → a = b
  | [], _, a, ha, _, _, _ => absurd ha List.not_mem_nil
  | x :: l, hp, a, ha, b, hb, e => by
    rw [List.pairwise_cons] at hp
    rcases List.mem_cons.mp ha with ea | ha
    · rcases List.mem_cons.mp hb with eb | hb
      · rw [ea, eb]
      · have := hp.1 b hb; rw [ea] at e; omega
    · rcases List.mem_cons.mp hb with eb | hb
      · have := hp.1 a ha; rw [eb] at e; omega
      · exact pw_inj hp.2 a ha b hb e
def LQ (h : Hl) (v t : Nat) (r : List Nat) : Int := likeF h v (finF h t r 0)
/-- what a search over rows holds -/
def gdB (h : Hl) (v t : Nat) (rs : List (List Nat)) (B : Nat × Nat × Nat) : Prop := (rs = [] ∧ B.2.1 = 0) ∨ ∃ r, r ∈ rs ∧ B.1 = finF h t r 0 ∧ B.2.2 = kyN r 0 ∧ B.2.1 = rs.countP (fun q => decide (LQ h v t q = LQ h v t r)) ∧ ∀ q, q ∈ rs → LQ h v t q ≤ LQ h v t r ∧ (LQ h v t q = LQ h v t r → kyN r 0 ≤ kyN q 0)
theorem cnt_app {p : List Nat → Bool} (a : List (List Nat)) (x : List Nat) : (a ++ [x]).countP p = a.countP p + (if p x = true then 1 else 0) := by
  rw [List.countP_append, List.countP_singleton]
theorem gdB_pos {h : Hl} {v t : Nat} {rs : List (List Nat)} {r : List Nat} (hr : r ∈ rs) : 0 < rs.countP (fun q => decide (LQ h v t q = LQ h v t r)) :=
  List.countP_pos_iff.mpr ⟨r, hr, decide_eq_true rfl⟩
theorem jud_gd {h : Hl} {v t : Nat} {pre : List (List Nat)} {B : Nat × Nat × Nat} (H : gdB h v t pre B) (r : List Nat) : gdB h v t (pre ++ [r]) (jud h v B (finF h t r 0, kyN r 0)) := by
  rcases H with ⟨rfl, h0⟩ | ⟨r0, hr0, e1, e2, e3, e4⟩
  · rw [jud_new (Or.inl h0)]
    refine Or.inr ⟨r, by simp, rfl, rfl, ?_, fun q hq => ?_⟩
    · rw [cnt_app, if_pos (decide_eq_true rfl)]; rfl
    · have : q = r := by simpa using hq
      rw [this]; exact ⟨Int.le_refl _, fun _ => Nat.le_refl _⟩
  · have hc := gdB_pos (h := h) (v := v) (t := t) hr0
    have hc0 : ¬ B.2.1 = 0 := by omega
    have hL : likeF h v B.1 = LQ h v t r0 := by rw [e1]; rfl
    rcases Int.lt_trichotomy (LQ h v t r0) (LQ h v t r) with c | c | c
    · rw [jud_new (Or.inr (by rw [hL]; exact c))]
      refine Or.inr ⟨r, by simp, rfl, rfl, ?_, fun q hq => ?_⟩
      · rw [cnt_app, if_pos (decide_eq_true rfl), List.countP_eq_zero.mpr]
        intro q hq z
        have := of_decide_eq_true z
        have := (e4 q hq).1
        omega
      · rcases List.mem_append.mp hq with hq | hq
        · have := (e4 q hq).1
          exact ⟨by omega, fun z => by omega⟩
        · rw [List.mem_singleton.mp hq]; exact ⟨Int.le_refl _, fun _ => Nat.le_refl _⟩
    · by_cases ck : kyN r 0 < B.2.2
      · rw [jud_lt hc0 (show likeF h v (finF h t r 0) = likeF h v B.1 by rw [hL]; exact c.symm) ck]
        refine Or.inr ⟨r, by simp, rfl, rfl, ?_, fun q hq => ?_⟩
        · rw [cnt_app, if_pos (decide_eq_true rfl), ← c]
          show B.2.1 + 1 = _
          rw [e3]
        · rcases List.mem_append.mp hq with hq | hq
          · have := e4 q hq
            exact ⟨by omega, fun z => by have := this.2 (by omega); omega⟩
          · rw [List.mem_singleton.mp hq]; exact ⟨Int.le_refl _, fun _ => Nat.le_refl _⟩
      · rw [jud_ge hc0 (show likeF h v (finF h t r 0) = likeF h v B.1 by rw [hL]; exact c.symm) ck]
        refine Or.inr ⟨r0, by simp [hr0], e1, e2, ?_, fun q hq => ?_⟩
        · rw [cnt_app, if_pos (decide_eq_true c.symm)]
          show B.2.1 + 1 = _
          rw [e3]
        · rcases List.mem_append.mp hq with hq | hq
          · exact e4 q hq
          · rw [List.mem_singleton.mp hq]; exact ⟨by omega, fun _ => by omega⟩
    · rw [jud_low hc0 (show likeF h v (finF h t r 0) < likeF h v B.1 by rw [hL]; exact c)]
      refine Or.inr ⟨r0, by simp [hr0], e1, e2, ?_, fun q hq => ?_⟩
      · rw [cnt_app, if_neg (by rw [decide_eq_true_eq]; omega), Nat.add_zero]; exact e3
      · rcases List.mem_append.mp hq with hq | hq
        · exact e4 q hq
        · rw [List.mem_singleton.mp hq]; exact ⟨by omega, fun z => by omega⟩
theorem outK_nil (h : Hl) (t : Nat) (r : List Nat) : outK h t [] r = (finF h t r 0, kyN r 0) := by unfold outK; rw [List.append_nil]
theorem fol_gd {h : Hl} {v t : Nat} : ∀ (rs pre : List (List Nat)) (B : Nat × Nat × Nat), gdB h v t pre B → gdB h v t (pre ++ rs) (fol h v t [] B rs)
  | [], pre, B, H => by rw [List.append_nil]; exact H
  | r :: rs, pre, B, H => by
    have ih := fol_gd rs (pre ++ [r]) _ (jud_gd H r)
    rw [List.append_assoc] at ih
    rw [← outK_nil] at ih
    exact ih
theorem gdB_uniq {h : Hl} {v t : Nat} {rs rs' : List (List Nat)} {B B' : Nat × Nat × Nat} (hp : rs.Perm rs') (hi : ∀ a, a ∈ rs → ∀ b, b ∈ rs → kyN a 0 = kyN b 0 → a = b) (hne : rs ≠ []) (H : gdB h v t rs B) (H' : gdB h v t rs' B') : B = B' := by
  rcases H with ⟨e, -⟩ | ⟨r, hr, e1, e2, e3, e4⟩
  · exact absurd e hne
  rcases H' with ⟨e, -⟩ | ⟨r', hr', f1, f2, f3, f4⟩
  · rw [e] at hp; exact absurd hp.eq_nil hne
  have a1 := e4 r' (hp.mem_iff.mpr hr')
  have a2 := f4 r (hp.mem_iff.mp hr)
  have hL : LQ h v t r' = LQ h v t r := by omega
  have b1 := a1.2 hL
  have b2 := a2.2 hL.symm
  have er : r = r' := hi r hr r' (hp.mem_iff.mpr hr') (by omega)
  subst er
  obtain ⟨B1, B2, B3⟩ := B
  obtain ⟨C1, C2, C3⟩ := B'
  simp only at e1 e2 e3 f1 f2 f3
  rw [e1, e2, e3, f1, f2, f3, hp.countP_eq]
theorem least_perm {h : Hl} (w : Wf h) : (ordL h (leastO h)).Perm (List.range (hN h)) := by
  have ho := least_Ord w
  have hnd : (ordL h (leastO h)).Nodup := flL_nodup ho 0 _ (Nat.le_refl _)
  rw [List.perm_ext_iff_of_nodup hnd List.nodup_range]
  intro m
  rw [List.mem_range]
  constructor
  · intro hm; exact ordL_lt ho m hm
  · intro hm
    obtain ⟨p, hp, e⟩ := ho.sur hm
    rw [ordL_eq]
    exact List.mem_map.mpr ⟨p, List.mem_range.mpr hp, e⟩
theorem GL_ne {h : Hl} (w : Wf h) : GL h ≠ [] := by
  have hm : ordL h (leastO h) ∈ GL h := by
    rw [GL, List.mem_filter]
    refine ⟨mem_PL.mpr (least_perm w), goodO_iff.mpr (fun k hk => ?_)⟩
    have e : ∀ i, i < hN h → lF (ordL h (leastO h)) i = leastO h i := fun i hi => ordL_getD h _ hi
    have eg : grN (lF (ordL h (leastO h))) k = plN h k := b_eq (fun m => by
      rw [grN_bit, plN_bit]
      constructor
      · rintro ⟨i, h1, h2⟩; exact ⟨i, h1, by rw [← e i (by omega)]; exact h2⟩
      · rintro ⟨i, h1, h2⟩; exact ⟨i, h1, by rw [e i (by omega)]; exact h2⟩)
    obtain ⟨a1, a2, -⟩ := least_is w hk
    rw [okB, Bool.and_eq_true] at a2
    rw [eg, e k hk]
    exact ⟨a1, by simpa using a2.1, a2.2⟩
  intro z
  rw [z] at hm
  exact absurd hm List.not_mem_nil
def bsG (h : Hl) (v t : Nat) : Nat × Nat × Nat := fol h v t [] (0, 0, 0) (GL h)
theorem bst_GL {h : Hl} (w : Wf h) (v t : Nat) : bst h v t = bsG h v t := by
  have hp := dfs_GL w
  have h0 : gdB h v t [] (0, 0, 0) := Or.inl ⟨rfl, rfl⟩
  have hi : ∀ a, a ∈ GL h → ∀ b, b ∈ GL h → kyN a 0 = kyN b 0 → a = b := fun a ha b hb e =>
    pw_inj (lnk_pw _ (PL_lnk _ w.2.2.1).1) a (List.mem_filter.mp ha).1 b (List.mem_filter.mp hb).1 e
  exact (gdB_uniq (h := h) (v := v) (t := t) hp.symm hi (GL_ne w) (fol_gd (GL h) [] _ h0) (fol_gd _ [] _ h0)).symm
theorem bsG_pos {h : Hl} (w : Wf h) (v t : Nat) : (bsG h v t).2.1 ≠ 0 := by
  rcases fol_gd (h := h) (v := v) (t := t) (GL h) [] _ (Or.inl ⟨rfl, rfl⟩ : gdB h v t [] (0, 0, 0)) with ⟨e, -⟩ | ⟨r, hr, -, -, e3, -⟩
  · exact absurd e (GL_ne w)
  · have := gdB_pos (h := h) (v := v) (t := t) hr
    show (fol h v t [] (0, 0, 0) (GL h)).2.1 ≠ 0
    rw [e3]
    omega
def bI (b c : Nat) : Int := if c = 0 then -1 else (b : Int)
def fI (h : Hl) (c k : Nat) : Int := if c = 0 then 0 else ((rkN k (hN h) : Nat) : Int)
def bV (h : Hl) (wh : Int) (B : Nat × Nat × Nat) : Int := if wh = 0 then bI B.1 B.2.1 else if wh = 1 then fI h B.2.1 B.2.2 else (B.2.1 : Int)
theorem lp8_best {l : Launch} {x : zX} {g : zG} {Q : Option Value → zD → Prop} {d : zD} {h : Hl} {v t : Nat} {wh : Int} {B0 : Nat × Nat × Nat} (hg : zAmOk g) (w : Wf h) (H : HM d h) (K : LKM d h) (hv : v < hV h) (hwh : 0 ≤ wh ∧ wh ≤ 2) (hQ : ∀ d', zF [37, 58, 60, 61] d d' → (∀ i, i ≠ 37 → d' 37 i = d 37 i) → Q (some (zi (bV h wh B0))) d') : ∀ (rest : List (List Nat)) (b c k : Nat) (d1 : zD), zF [37, 58, 60, 61] d d1 → (∀ i, i ≠ 37 → d1 37 i = d 37 i) → lnkB rest = true → (∀ l ∈ rest, l.Perm (List.range (hN h))) → (∀ l, rest.head? = some l → RW d1 (lF l) (hN h)) → (∀ l ∈ rest, c ≠ 0 → k < kyN l 0) → b < 256 → c + rest.length ≤ 720 → fol h v t [] (b, c, k) (rest.filter (fun l => goodO h (lF l))) = B0 → zV l x g mX8_best 6 Q 52 [(0, zr g 37), (1, zi (v : Int)), (2, zi (t : Int)), (3, zi wh), (4, zi (bI b c)), (5, zi (fI h c k)), (6, zi (c : Int)), (7, zi (zb (!rest.isEmpty)))] [] d1 := by
  have w3 := w.2.2.1
  have w4 := w.2.2.2.1
  intro rest
  induction rest with
  | nil =>
    intro b c k d1 F e1 hl hp hr hk hb hlen hfol
    have hB : (b, c, k) = B0 := hfol
    refine z_LL [(0, zr g 37), (1, zi (v : Int)), (2, zi (t : Int)), (3, zi wh), (4, zi (bI b c)), (5, zi (fI h c k)), (6, zi (c : Int)), (7, zi 0)] rfl ?_
    refine z_iload 7 dX8_best_52 rfl ?_
    refine z_if_eq 162 (by omega) dX8_best_54 (by decide) (fun h_54 => ?_) (fun h_54 => absurd rfl h_54)
    refine z_iload_n 3 dX8_best_162 rfl rfl ?_
    refine z_if_ne 171 (by omega) dX8_best_163 (by decide) (fun h_163 => ?_) (fun h_163 => ?_)
    · refine z_iload_n 3 dX8_best_171 rfl rfl ?_
      refine z_iconst dX8_best_172 ?_
      refine z_icmp_ne 181 (by omega) (by omega) dX8_best_173 (by decide) (fun h_173 => ?_) (fun h_173 => ?_)
      · refine z_iload 6 dX8_best_181 rfl ?_
        have hq := hQ d1 F e1
        rw [← hB] at hq
        exact z_iret rfl dX8_best_183 ((show bV h wh (b, c, k) = (c : Int) by unfold bV; rw [if_neg (by omega), if_neg (by omega)]) ▸ hq)
      · refine z_iload 5 dX8_best_176 rfl ?_
        refine z_goto 183 dX8_best_178 (by decide) ?_
        have hq := hQ d1 F e1
        rw [← hB] at hq
        exact z_iret rfl dX8_best_183 ((show bV h wh (b, c, k) = fI h c k by unfold bV; rw [if_neg (by omega), if_pos (by omega)]) ▸ hq)
    · refine z_iload 4 dX8_best_166 rfl ?_
      refine z_goto 183 dX8_best_168 (by decide) ?_
      have hq := hQ d1 F e1
      rw [← hB] at hq
      exact z_iret rfl dX8_best_183 ((show bV h wh (b, c, k) = bI b c by unfold bV; rw [if_pos (by omega)]) ▸ hq)
  | cons q rest ih =>
    intro b c k d1 F e1 hl hp hr hk hb hlen hfol
    obtain ⟨hl1, hl2⟩ := lnk_tail hl
    have hpw := (List.pairwise_cons.mp (lnk_pw _ hl)).1
    have H1 : HM d1 h := HM.of H F (by decide)
    have K1 : LKM d1 h := K.of (F 59 (by decide))
    have h1 : d1 38 1 = hN h := H1.1.2.1
    have R1 := hr q rfl
    have hq := hp q (by simp)
    obtain ⟨p1, p2, p3⟩ := perm_bits hq
    have hlt : ∀ i, i < hN h → lF q i < 16 := fun i hi => by have z : lF q i < hN h := (p3 _).mp (gd_mem (show i < q.length by omega)); omega
    have nx1 := (nx_head p1 hl2).1
    have RQ : RLs d1 q := fun i hi => R1 i (by omega)
    have hf := finF_lt w t q 0
    have hrk := rk_ky w3 hq
    have hkq : c ≠ 0 → k < kyN q 0 := hk q (by simp)
    have lb1 := like_b w (finF h t q 0) hv
    have lb2 := like_b w b hv
    have hbi : -1 ≤ bI b c ∧ bI b c < 256 := by unfold bI; split <;> omega
    rw [List.length_cons] at hlen
    refine z_LL [(0, zr g 37), (1, zi (v : Int)), (2, zi (t : Int)), (3, zi wh), (4, zi (bI b c)), (5, zi (fI h c k)), (6, zi (c : Int)), (7, zi 1)] rfl ?_
    refine z_iload 7 dX8_best_52 rfl ?_
    refine z_if_eq 162 (by omega) dX8_best_54 (by decide) (fun h_54 => absurd h_54 (by decide)) (fun h_54 => ?_)
    refine z_aload_n 0 dX8_best_57 rfl rfl ?_
    refine z_cv (t8_isGood l hg w H1 R1 (fun i hi => by have := hlt i hi; omega)) mk_X8_isGood mi_X8_isGood ml_RX8_233 (by omega) (by decide) rfl rfl rfl rfl (Nat.le_of_ble_eq_true rfl) dX8_best_58 (zpure ?_)
    refine z_if_eq_b 153 dX8_best_61 (by decide) (fun h_61 => ?_) (fun h_61 => ?_)
    · have hfol3 : fol h v t [] (b, c, k) (rest.filter (fun l => goodO h (lF l))) = B0 := by
        rw [List.filter_cons, if_neg (by rw [h_61]; decide)] at hfol
        exact hfol
      refine z_aload_n 0 dX8_best_153 rfl rfl ?_
      refine z_cv (t8_goesOn l hg w H1 R1 hlt) mk_X8_goesOn mi_X8_goesOn ml_RX8_236 (by omega) (by decide) rfl rfl rfl rfl (Nat.le_of_ble_eq_true rfl) dX8_best_154 (fun r_154 d_154 q_154 => ?_)
      obtain ⟨rfl, g1, g2⟩ := q_154
      rw [nx1]
      show zV l x g mX8_best 6 _ _ _ [_] _
      refine z_istore (L' := [(0, _), (1, _), (2, _), (3, _), (4, _), (5, _), (6, _), (7, _)]) dX8_best_157 (by decide) rfl rfl ?_
      refine z_goto 52 dX8_best_159 (by decide) ?_
      refine z_LL _ ?_ (ih b c k d_154 (F.tr (zF.mono g1 (by decide))) (fun i hi => by rw [g1 37 (by decide)]; exact e1 i hi) hl1 (fun l hl => hp l (by simp [hl])) (fun m hm i hi => ?_) (fun l hl => hk l (by simp [hl])) hb (by omega) hfol3)
      · rfl
      · obtain ⟨f', hf', hf2⟩ := nx_ex p1 hl2 hm
        rw [← hf2 i hi]
        exact g2 f' hf' i hi
    · have hfol2 : fol h v t [] (jud h v (b, c, k) (finF h t q 0, kyN q 0)) (rest.filter (fun l => goodO h (lF l))) = B0 := by
        rw [List.filter_cons, if_pos h_61] at hfol
        rw [← outK_nil]; exact hfol
      refine z_aload_n 0 dX8_best_64 rfl rfl ?_
      refine z_aload_n 0 dX8_best_65 rfl rfl ?_
      refine z_getr fl_RX8_7 (by decide) rfl rfl dX8_best_66 ?_
      refine z_iconst dX8_best_69 ?_
      refine z_iald 1 (by decide) rfl rfl (by decide) (by decide) dX8_best_70 ?_
      rw [h1]
      refine z_iload_n 2 dX8_best_71 rfl rfl ?_
      refine z_top2 ((q.length : Nat) : Int) (by rw [p1]) ?_
      refine z_cv (t8_worksOut l hg w H1 K1 (ls := q) RQ (by omega) (fun m hm => (p3 m).mp hm) (t := t)) mk_X8_worksOut mi_X8_worksOut ml_RX8_278 (by omega) (by decide) rfl rfl rfl rfl (Nat.le_of_ble_eq_true rfl) dX8_best_72 (zvoid fun d_72 q_72 => ?_)
      obtain ⟨s1, s2, s3, s4⟩ := q_72
      have e := (s4 0 0 (Nat.le_refl _) (Nat.zero_le _) (by decide)).1
      have e0 : d_72 60 0 = (finF h t q 0 : Nat) := by rw [show (0 : Nat) = 64 * 0 + 0 from rfl, e, eM, mo_zero]; rfl
      have H2 : HM d_72 h := HM.of H1 s1 (by decide)
      have K2 : LKM d_72 h := K1.of (s1 59 (by decide))
      have R2 : RW d_72 (lF q) (hN h) := R1.of (s1 58 (by decide))
      refine z_aload_n 0 dX8_best_75 rfl rfl ?_
      refine z_getr fl_RX8_76 (by decide) rfl rfl dX8_best_76 ?_
      refine z_iconst dX8_best_79 ?_
      refine z_iald 0 (by decide) rfl rfl (by decide) (by decide) dX8_best_80 ?_
      rw [e0]
      refine z_istore (L' := [(0, _), (1, _), (2, _), (3, _), (4, _), (5, _), (6, _), (7, _), (8, _)]) dX8_best_81 (by decide) rfl rfl ?_
      refine z_iload 4 dX8_best_83 rfl ?_
      refine z_iconst dX8_best_85 ?_
      refine z_icmp_eq 101 (by omega) (by omega) dX8_best_86 (by decide) (fun h_86 => ?_) (fun h_86 => ?_)
      · have hnew : c = 0 ∨ likeF h v b < likeF h v (finF h t q 0) := Or.inl (by unfold bI at h_86; split at h_86 <;> omega)
        refine z_iload 8 dX8_best_101 rfl ?_
        refine z_istore (L' := [(0, _), (1, _), (2, _), (3, _), (4, _), (5, _), (6, _), (7, _), (8, _)]) dX8_best_103 (by decide) rfl rfl ?_
        refine z_aload_n 0 dX8_best_105 rfl rfl ?_
        refine z_cv (t8_packed l hg w H2 (f := lF q) R2 hlt) mk_X8_packed mi_X8_packed ml_RX8_308 (by omega) (by decide) rfl rfl rfl rfl (Nat.le_of_ble_eq_true rfl) dX8_best_106 (zpure ?_)
        refine z_istore (L' := [(0, _), (1, _), (2, _), (3, _), (4, _), (5, _), (6, _), (7, _), (8, _)]) dX8_best_109 (by decide) rfl rfl ?_
        refine z_iconst dX8_best_111 ?_
        refine z_istore (L' := [(0, _), (1, _), (2, _), (3, _), (4, _), (5, _), (6, _), (7, _), (8, _)]) dX8_best_112 (by decide) rfl rfl ?_
        refine z_iload 6 dX8_best_114 rfl ?_
        refine z_aload_n 0 dX8_best_116 rfl rfl ?_
        refine z_getr fl_RX8_73 (by decide) rfl rfl dX8_best_117 ?_
        refine z_sipush dX8_best_120 (by decide) ?_
        refine z_iload_n 1 dX8_best_123 rfl rfl ?_
        refine z_imul dX8_best_124 ?_
        refine z_iload 8 dX8_best_125 rfl ?_
        refine z_iadd dX8_best_127 ?_
        refine z_iald (256 * v + finF h t q 0) (by decide) rfl (by omega) (by omega) (by decide) dX8_best_128 ?_
        rw [K2 v (finF h t q 0) hv hf]
        refine z_aload_n 0 dX8_best_129 rfl rfl ?_
        refine z_getr fl_RX8_73 (by decide) rfl rfl dX8_best_130 ?_
        refine z_sipush dX8_best_133 (by decide) ?_
        refine z_iload_n 1 dX8_best_136 rfl rfl ?_
        refine z_imul dX8_best_137 ?_
        refine z_iload 4 dX8_best_138 rfl ?_
        refine z_iadd dX8_best_140 ?_
        refine z_iald (256 * v + finF h t q 0) (by decide) rfl (by omega) (by omega) (by decide) dX8_best_141 ?_
        rw [K2 v (finF h t q 0) hv hf]
        refine z_icmp_ne 149 (by omega) (by omega) dX8_best_142 (by decide) (fun h_142 => absurd rfl h_142) (fun h_142 => ?_)
        refine z_iconst dX8_best_145 ?_
        refine z_goto 150 dX8_best_146 (by decide) ?_
        refine z_iadd dX8_best_150 ?_
        refine z_istore (L' := [(0, _), (1, _), (2, _), (3, _), (4, _), (5, _), (6, _), (7, _), (8, _)]) dX8_best_151 (by decide) rfl rfl ?_
        refine z_aload_n 0 dX8_best_153 rfl rfl ?_
        refine z_cv (t8_goesOn l hg w H2 R2 hlt) mk_X8_goesOn mi_X8_goesOn ml_RX8_236 (by omega) (by decide) rfl rfl rfl rfl (Nat.le_of_ble_eq_true rfl) dX8_best_154 (fun r_154 d_154 q_154 => ?_)
        obtain ⟨rfl, g1, g2⟩ := q_154
        rw [nx1]
        show zV l x g mX8_best 6 _ _ _ [_] _
        refine z_istore (L' := [(0, _), (1, _), (2, _), (3, _), (4, _), (5, _), (6, _), (7, _), (8, _)]) dX8_best_157 (by decide) rfl rfl ?_
        refine z_goto 52 dX8_best_159 (by decide) ?_
        refine z_sub (L' := [(0, _), (1, _), (2, _), (3, _), (4, _), (5, _), (6, _), (7, _)]) [0, 1, 2, 3, 4, 5, 6, 7] rfl ?_
        rw [jud_new (B := (b, c, k)) hnew] at hfol2
        refine z_LL _ ?_ (ih (finF h t q 0) 1 (kyN q 0) d_154 ((F.tr (zF.mono s1 (by decide))).tr (zF.mono g1 (by decide))) (fun i hi => by rw [g1 37 (by decide), s2 i hi]; exact e1 i hi) hl1 (fun l hl => hp l (by simp [hl])) (fun m hm i hi => ?_) (fun l hl _ => hpw l hl) hf (by omega) hfol2)
        · rw [show bI (finF h t q 0) 1 = ((finF h t q 0 : Nat) : Int) from rfl, show fI h 1 (kyN q 0) = ((pkN (lF q) (hN h) (hN h) : Nat) : Int) by rw [← hrk]; rfl]; try rfl
        · obtain ⟨f', hf', hf2⟩ := nx_ex p1 hl2 hm
          rw [← hf2 i hi]
          exact g2 f' hf' i hi
      · have hn0 : c ≠ 0 := fun z => h_86 (by unfold bI; rw [if_pos z])
        have hb1 : bI b c = (b : Int) := by unfold bI; rw [if_neg hn0]
        refine z_aload_n 0 dX8_best_89 rfl rfl ?_
        refine z_iload_n 1 dX8_best_90 rfl rfl ?_
        refine z_iload 8 dX8_best_91 rfl ?_
        refine z_iload 4 dX8_best_93 rfl ?_
        refine z_top _ hb1 ?_
        refine z_cv (t8_isPreferred l hg w K2 (v := v) (f := finF h t q 0) (o := b) hv hf hb) mk_X8_isPreferred mi_X8_isPreferred ml_RX8_250 (by omega) (by decide) rfl rfl rfl rfl (Nat.le_of_ble_eq_true rfl) dX8_best_95 (zpure ?_)
        refine z_if_eq_b 114 dX8_best_98 (by decide) (fun h_98 => ?_) (fun h_98 => ?_)
        · have hle : ¬ likeF h v b < likeF h v (finF h t q 0) := of_decide_eq_false h_98
          refine z_iload 6 dX8_best_114 rfl ?_
          refine z_aload_n 0 dX8_best_116 rfl rfl ?_
          refine z_getr fl_RX8_73 (by decide) rfl rfl dX8_best_117 ?_
          refine z_sipush dX8_best_120 (by decide) ?_
          refine z_iload_n 1 dX8_best_123 rfl rfl ?_
          refine z_imul dX8_best_124 ?_
          refine z_iload 8 dX8_best_125 rfl ?_
          refine z_iadd dX8_best_127 ?_
          refine z_iald (256 * v + finF h t q 0) (by decide) rfl (by omega) (by omega) (by decide) dX8_best_128 ?_
          rw [K2 v (finF h t q 0) hv hf]
          refine z_aload_n 0 dX8_best_129 rfl rfl ?_
          refine z_getr fl_RX8_73 (by decide) rfl rfl dX8_best_130 ?_
          refine z_sipush dX8_best_133 (by decide) ?_
          refine z_iload_n 1 dX8_best_136 rfl rfl ?_
          refine z_imul dX8_best_137 ?_
          refine z_iload 4 dX8_best_138 rfl ?_
          refine z_iadd dX8_best_140 ?_
          refine z_iald (256 * v + b) (by decide) rfl (by omega) (by omega) (by decide) dX8_best_141 ?_
          rw [K2 v b hv hb]
          refine z_icmp_ne 149 (by omega) (by omega) dX8_best_142 (by decide) (fun h_142 => ?_) (fun h_142 => ?_)
          · refine z_iconst dX8_best_149 ?_
            refine z_iadd dX8_best_150 ?_
            refine z_istore (L' := [(0, _), (1, _), (2, _), (3, _), (4, _), (5, _), (6, _), (7, _), (8, _)]) dX8_best_151 (by decide) rfl rfl ?_
            refine z_aload_n 0 dX8_best_153 rfl rfl ?_
            refine z_cv (t8_goesOn l hg w H2 R2 hlt) mk_X8_goesOn mi_X8_goesOn ml_RX8_236 (by omega) (by decide) rfl rfl rfl rfl (Nat.le_of_ble_eq_true rfl) dX8_best_154 (fun r_154 d_154 q_154 => ?_)
            obtain ⟨rfl, g1, g2⟩ := q_154
            rw [nx1]
            show zV l x g mX8_best 6 _ _ _ [_] _
            refine z_istore (L' := [(0, _), (1, _), (2, _), (3, _), (4, _), (5, _), (6, _), (7, _), (8, _)]) dX8_best_157 (by decide) rfl rfl ?_
            refine z_goto 52 dX8_best_159 (by decide) ?_
            refine z_sub (L' := [(0, _), (1, _), (2, _), (3, _), (4, _), (5, _), (6, _), (7, _)]) [0, 1, 2, 3, 4, 5, 6, 7] rfl ?_
            have hlow : likeF h v (finF h t q 0) < likeF h v b := by omega
            rw [jud_low (B := (b, c, k)) hn0 hlow] at hfol2
            refine z_LL _ ?_ (ih b c k d_154 ((F.tr (zF.mono s1 (by decide))).tr (zF.mono g1 (by decide))) (fun i hi => by rw [g1 37 (by decide), s2 i hi]; exact e1 i hi) hl1 (fun l hl => hp l (by simp [hl])) (fun m hm i hi => ?_) (fun l hl => hk l (by simp [hl])) hb (by omega) hfol2)
            · rw [show (c : Int) + 0 = (c : Int) by omega]; try rfl
            · obtain ⟨f', hf', hf2⟩ := nx_ex p1 hl2 hm
              rw [← hf2 i hi]
              exact g2 f' hf' i hi
          · refine z_iconst dX8_best_145 ?_
            refine z_goto 150 dX8_best_146 (by decide) ?_
            refine z_iadd dX8_best_150 ?_
            refine z_istore (L' := [(0, _), (1, _), (2, _), (3, _), (4, _), (5, _), (6, _), (7, _), (8, _)]) dX8_best_151 (by decide) rfl rfl ?_
            refine z_aload_n 0 dX8_best_153 rfl rfl ?_
            refine z_cv (t8_goesOn l hg w H2 R2 hlt) mk_X8_goesOn mi_X8_goesOn ml_RX8_236 (by omega) (by decide) rfl rfl rfl rfl (Nat.le_of_ble_eq_true rfl) dX8_best_154 (fun r_154 d_154 q_154 => ?_)
            obtain ⟨rfl, g1, g2⟩ := q_154
            rw [nx1]
            show zV l x g mX8_best 6 _ _ _ [_] _
            refine z_istore (L' := [(0, _), (1, _), (2, _), (3, _), (4, _), (5, _), (6, _), (7, _), (8, _)]) dX8_best_157 (by decide) rfl rfl ?_
            refine z_goto 52 dX8_best_159 (by decide) ?_
            refine z_sub (L' := [(0, _), (1, _), (2, _), (3, _), (4, _), (5, _), (6, _), (7, _)]) [0, 1, 2, 3, 4, 5, 6, 7] rfl ?_
            have heq : likeF h v (finF h t q 0) = likeF h v b := by omega
            have hkk := hkq hn0
            rw [jud_ge (B := (b, c, k)) hn0 heq (show ¬ kyN q 0 < k by omega)] at hfol2
            refine z_LL _ ?_ (ih b (c + 1) k d_154 ((F.tr (zF.mono s1 (by decide))).tr (zF.mono g1 (by decide))) (fun i hi => by rw [g1 37 (by decide), s2 i hi]; exact e1 i hi) hl1 (fun l hl => hp l (by simp [hl])) (fun m hm i hi => ?_) (fun l hl _ => hk l (by simp [hl]) hn0) hb (by omega) hfol2)
            · rw [show bI b (c + 1) = bI b c by unfold bI; rw [if_neg hn0, if_neg (by omega)], show fI h (c + 1) k = fI h c k by unfold fI; rw [if_neg hn0, if_neg (by omega)]]; try rfl
            · obtain ⟨f', hf', hf2⟩ := nx_ex p1 hl2 hm
              rw [← hf2 i hi]
              exact g2 f' hf' i hi
        · have hnew : c = 0 ∨ likeF h v b < likeF h v (finF h t q 0) := Or.inr (of_decide_eq_true h_98)
          refine z_iload 8 dX8_best_101 rfl ?_
          refine z_istore (L' := [(0, _), (1, _), (2, _), (3, _), (4, _), (5, _), (6, _), (7, _), (8, _)]) dX8_best_103 (by decide) rfl rfl ?_
          refine z_aload_n 0 dX8_best_105 rfl rfl ?_
          refine z_cv (t8_packed l hg w H2 (f := lF q) R2 hlt) mk_X8_packed mi_X8_packed ml_RX8_308 (by omega) (by decide) rfl rfl rfl rfl (Nat.le_of_ble_eq_true rfl) dX8_best_106 (zpure ?_)
          refine z_istore (L' := [(0, _), (1, _), (2, _), (3, _), (4, _), (5, _), (6, _), (7, _), (8, _)]) dX8_best_109 (by decide) rfl rfl ?_
          refine z_iconst dX8_best_111 ?_
          refine z_istore (L' := [(0, _), (1, _), (2, _), (3, _), (4, _), (5, _), (6, _), (7, _), (8, _)]) dX8_best_112 (by decide) rfl rfl ?_
          refine z_iload 6 dX8_best_114 rfl ?_
          refine z_aload_n 0 dX8_best_116 rfl rfl ?_
          refine z_getr fl_RX8_73 (by decide) rfl rfl dX8_best_117 ?_
          refine z_sipush dX8_best_120 (by decide) ?_
          refine z_iload_n 1 dX8_best_123 rfl rfl ?_
          refine z_imul dX8_best_124 ?_
          refine z_iload 8 dX8_best_125 rfl ?_
          refine z_iadd dX8_best_127 ?_
          refine z_iald (256 * v + finF h t q 0) (by decide) rfl (by omega) (by omega) (by decide) dX8_best_128 ?_
          rw [K2 v (finF h t q 0) hv hf]
          refine z_aload_n 0 dX8_best_129 rfl rfl ?_
          refine z_getr fl_RX8_73 (by decide) rfl rfl dX8_best_130 ?_
          refine z_sipush dX8_best_133 (by decide) ?_
          refine z_iload_n 1 dX8_best_136 rfl rfl ?_
          refine z_imul dX8_best_137 ?_
          refine z_iload 4 dX8_best_138 rfl ?_
          refine z_iadd dX8_best_140 ?_
          refine z_iald (256 * v + finF h t q 0) (by decide) rfl (by omega) (by omega) (by decide) dX8_best_141 ?_
          rw [K2 v (finF h t q 0) hv hf]
          refine z_icmp_ne 149 (by omega) (by omega) dX8_best_142 (by decide) (fun h_142 => absurd rfl h_142) (fun h_142 => ?_)
          refine z_iconst dX8_best_145 ?_
          refine z_goto 150 dX8_best_146 (by decide) ?_
          refine z_iadd dX8_best_150 ?_
          refine z_istore (L' := [(0, _), (1, _), (2, _), (3, _), (4, _), (5, _), (6, _), (7, _), (8, _)]) dX8_best_151 (by decide) rfl rfl ?_
          refine z_aload_n 0 dX8_best_153 rfl rfl ?_
          refine z_cv (t8_goesOn l hg w H2 R2 hlt) mk_X8_goesOn mi_X8_goesOn ml_RX8_236 (by omega) (by decide) rfl rfl rfl rfl (Nat.le_of_ble_eq_true rfl) dX8_best_154 (fun r_154 d_154 q_154 => ?_)
          obtain ⟨rfl, g1, g2⟩ := q_154
          rw [nx1]
          show zV l x g mX8_best 6 _ _ _ [_] _
          refine z_istore (L' := [(0, _), (1, _), (2, _), (3, _), (4, _), (5, _), (6, _), (7, _), (8, _)]) dX8_best_157 (by decide) rfl rfl ?_
          refine z_goto 52 dX8_best_159 (by decide) ?_
          refine z_sub (L' := [(0, _), (1, _), (2, _), (3, _), (4, _), (5, _), (6, _), (7, _)]) [0, 1, 2, 3, 4, 5, 6, 7] rfl ?_
          rw [jud_new (B := (b, c, k)) hnew] at hfol2
          refine z_LL _ ?_ (ih (finF h t q 0) 1 (kyN q 0) d_154 ((F.tr (zF.mono s1 (by decide))).tr (zF.mono g1 (by decide))) (fun i hi => by rw [g1 37 (by decide), s2 i hi]; exact e1 i hi) hl1 (fun l hl => hp l (by simp [hl])) (fun m hm i hi => ?_) (fun l hl _ => hpw l hl) hf (by omega) hfol2)
          · rw [show bI (finF h t q 0) 1 = ((finF h t q 0 : Nat) : Int) from rfl, show fI h 1 (kyN q 0) = ((pkN (lF q) (hN h) (hN h) : Nat) : Int) by rw [← hrk]; rfl]; try rfl
          · obtain ⟨f', hf', hf2⟩ := nx_ex p1 hl2 hm
            rw [← hf2 i hi]
            exact g2 f' hf' i hi
theorem t8_best (l : Launch) {g : zG} (hg : zAmOk g) {d : zD} {h : Hl} {ord : Nat → Nat} {tl : Nat} {tp : Nat → Nat} {fl : Int} (I : IM d h ord tl tp fl) {v a wh : Int} (hv : zin v) (ha : zin a) (hw : zin wh) : zC l g mX8_best 6 [zr g 37, zi v, zi a, zi wh] d (anM d h ord tl tp fl (besS h v a wh)) := by
  obtain ⟨w, H, O, T, hfl, ho⟩ := id (I.ra 0)
  have w3 := w.2.2.1
  obtain ⟨hk1, hk2⟩ := PL_lnk (hN h) w3
  refine zC_of (L := [(0, _), (1, _), (2, _), (3, _)]) mk_X8_best (Nat.le_of_ble_eq_true rfl) hg rfl (fun x => ?_)
  refine z_aload_n 0 dX8_best_0 rfl rfl ?_
  refine z_iconst dX8_best_1 ?_
  refine z_puti fp_RX8_95 (by decide) rfl rfl dX8_best_2 ?_
  refine z_aload_n 0 dX8_best_5 rfl rfl ?_
  refine z_iload_n 1 dX8_best_6 rfl rfl ?_
  refine z_cv (t8_isVoter l hg w H hv) mk_X8_isVoter mi_X8_isVoter ml_RX8_305 (by omega) (by decide) rfl rfl rfl rfl (Nat.le_of_ble_eq_true rfl) dX8_best_7 (zpure ?_)
  refine z_if_eq_b 30 dX8_best_10 (by decide) (fun h_10 => ?_) (fun h_10 => ?_)
  · refine z_iconst dX8_best_30 ?_
    have hno : ¬ (vB h v = true ∧ tB h a = true ∧ 0 ≤ wh ∧ wh ≤ 2) := fun z => by rw [h_10] at z; cases z.1
    exact z_iret rfl dX8_best_31 (anM.rf (MF.ra 0) (I.ra 0) (by rw [besS, if_neg hno]))
  · refine z_aload_n 0 dX8_best_13 rfl rfl ?_
    refine z_iload_n 2 dX8_best_14 rfl rfl ?_
    refine z_cv (t8_isSet l hg w H ha) mk_X8_isSetOfVoters mi_X8_isSetOfVoters ml_RX8_281 (by omega) (by decide) rfl rfl rfl rfl (Nat.le_of_ble_eq_true rfl) dX8_best_15 (zpure ?_)
    refine z_if_eq_b 30 dX8_best_18 (by decide) (fun h_18 => ?_) (fun h_18 => ?_)
    · refine z_iconst dX8_best_30 ?_
      have hno : ¬ (vB h v = true ∧ tB h a = true ∧ 0 ≤ wh ∧ wh ≤ 2) := fun z => by rw [h_18] at z; cases z.2.1
      exact z_iret rfl dX8_best_31 (anM.rf (MF.ra 0) (I.ra 0) (by rw [besS, if_neg hno]))
    · refine z_iload_n 3 dX8_best_21 rfl rfl ?_
      refine z_iconst dX8_best_22 ?_
      refine z_iconst dX8_best_23 ?_
      refine z_cs (t8_in l hg _ hw (by decide) (by decide)) mk_X8_in ms_X8_in ml_RX8_106 (by omega) rfl rfl (Nat.le_of_ble_eq_true rfl) dX8_best_24 (zpure ?_)
      refine z_if_ne_b 32 dX8_best_27 (by decide) (fun h_27 => ?_) (fun h_27 => ?_)
      · have h10 := of_decide_eq_true h_10
        have h18 := of_decide_eq_true h_18
        have h27 := of_decide_eq_true h_27
        have hav : v = ((v.toNat : Nat) : Int) := by omega
        have haa : a = ((a.toNat : Nat) : Int) := by omega
        refine z_aload_n 0 dX8_best_32 rfl rfl ?_
        refine z_cv (t8_laysLikes l hg w H) mk_X8_laysLikes mi_X8_laysLikes ml_RX8_272 (by omega) (by decide) rfl rfl rfl rfl (Nat.le_of_ble_eq_true rfl) dX8_best_33 (zvoid fun d_33 q_33 => ?_)
        obtain ⟨s1, s2⟩ := q_33
        have H2 : HM d_33 h := HM.of H s1 (by decide)
        refine z_aload_n 0 dX8_best_36 rfl rfl ?_
        refine z_cv (t8_laysFirst l hg w H2) mk_X8_laysFirst mi_X8_laysFirst ml_RX8_230 (by omega) (by decide) rfl rfl rfl rfl (Nat.le_of_ble_eq_true rfl) dX8_best_37 (zvoid fun d_37 q_37 => ?_)
        obtain ⟨f1, f2⟩ := q_37
        have H3 : HM d_37 h := HM.of H2 f1 (by decide)
        have K3 : LKM d_37 h := s2.of (f1 59 (by decide))
        have I3 : IM d_37 h ord tl tp fl := ((I.ra 0).of s1 (by decide) (by rw [s1 37 (by decide)]) (by rw [s1 37 (by decide)])).of f1 (by decide) (by rw [f1 37 (by decide)]) (by rw [f1 37 (by decide)])
        have hne := bsG_pos w v.toNat a.toNat
        refine z_iconst dX8_best_40 ?_
        refine z_istore (L' := [(0, _), (1, _), (2, _), (3, _), (4, _)]) dX8_best_41 (by decide) rfl rfl ?_
        refine z_iconst dX8_best_43 ?_
        refine z_istore (L' := [(0, _), (1, _), (2, _), (3, _), (4, _), (5, _)]) dX8_best_44 (by decide) rfl rfl ?_
        refine z_iconst dX8_best_46 ?_
        refine z_istore (L' := [(0, _), (1, _), (2, _), (3, _), (4, _), (5, _), (6, _)]) dX8_best_47 (by decide) rfl rfl ?_
        refine z_iconst dX8_best_49 ?_
        refine z_istore (L' := [(0, _), (1, _), (2, _), (3, _), (4, _), (5, _), (6, _), (7, _)]) dX8_best_50 (by decide) rfl rfl ?_
        refine z_LL _ ?_ (lp8_best (v := v.toNat) (t := a.toNat) (wh := wh) (B0 := bsG h v.toNat a.toNat) hg w H3 K3 (by omega) (by omega) (fun d' a1 a2 => ?_) (PL (hN h)) 0 0 0 d_37 zF.rf (fun _ _ => rfl) hk1 (fun l hl => mem_PL.mp hl) (fun m hm i hi => ?_) (fun _ _ z => absurd rfl z) (by decide) (by have := (PL_rk (hN h) w3).1; omega) rfl)
        · rw [← hav, ← haa]
          cases hpl : PL (hN h) with
          | nil => rw [hpl] at hk2; simp at hk2
          | cons a b => rfl
        · refine anM.rf ((MF.ra 0).tr ((MF.of s1 (by decide)).tr ((MF.of f1 (by decide)).tr (MF.of a1 (by decide))))) (I3.of a1 (by decide) (a2 21 (by decide)) (a2 22 (by decide))) ?_
          rw [besS, if_pos ⟨h_10, h_18, h27.1, h27.2⟩, bst_GL w]
          unfold bV bI fI
          rw [if_neg hne, if_neg hne]
        · rw [hk2] at hm
          have em : List.range (hN h) = m := Option.some.inj hm
          rw [f2 i hi, ← em]
          show ((i : Nat) : Int) = (((List.range (hN h)).getD i 0 : Nat) : Int)
          rw [List.getD_eq_getElem?_getD, List.getElem?_range hi]; rfl
      · refine z_iconst dX8_best_30 ?_
        have hno : ¬ (vB h v = true ∧ tB h a = true ∧ 0 ≤ wh ∧ wh ≤ 2) := fun z => by have := of_decide_eq_false h_27; omega
        exact z_iret rfl dX8_best_31 (anM.rf (MF.ra 0) (I.ra 0) (by rw [besS, if_neg hno]))
