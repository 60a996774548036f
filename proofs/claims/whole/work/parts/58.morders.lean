/-! the reference: orders, tell -/
theorem ahead {h : Hl} (w : Wf h) {k m : Nat} (hk : k < hN h) (hm : m < hN h) : ((hso h k = 3 ∧ hpa h k = m) ∨ (hso h m = 1 ∧ hso h k = 2)) ↔ hpa h k = m := by
  obtain ⟨a1, a2, a3, a4, a5, a6, a7⟩ := w.2.2.2.2.2.2.1 k hk
  obtain ⟨b1, b2, b3, b4, b5, b6, b7⟩ := w.2.2.2.2.2.2.1 m hm
  constructor
  · rintro (⟨c1, c2⟩ | ⟨c1, c2⟩)
    · exact c2
    · have := b4.mp c1; have := a6 c2; omega
  · intro c
    rcases (show hso h k = 0 ∨ hso h k = 1 ∨ hso h k = 2 ∨ hso h k = 3 by omega) with e | e | e | e
    · have := a5 (Or.inl e); omega
    · have := a5 (Or.inr e); omega
    · exact Or.inr ⟨b4.mpr (by have := a6 e; omega), e⟩
    · exact Or.inl ⟨e, c⟩
theorem lp8_mayStand {l : Launch} {x : zX} {g : zG} {n : Nat} {Q : Option Value → zD → Prop} {d : zD} {h : Hl} {m s : Nat} (hg : zAmOk g) (w : Wf h) (H : HM d h) (hm : m < hN h) (hn : 1 < n) (hQ : Q (some (zi (zb (chF h m s)))) d) : ∀ r k, chN h m s k = true → k ≤ hN h → hN h - k < r → zV l x g mX8_mayStand n Q 2 [(0, zr g 37), (1, zi (m : Int)), (2, zi (s : Int)), (3, zi (k : Int))] [] d := by
  have w3 := w.2.2.1
  have h1 : d 38 1 = hN h := H.1.2.1
  have em := (H.m hm).1
  have wm := (w.2.2.2.2.2.2.1 m hm).1
  intro r
  induction r with
  | zero => intro k hc hk hr; omega
  | succ r ih =>
    intro k hc hk hr
    refine z_iload_n 3 dX8_mayStand_2 rfl rfl ?_
    refine z_aload_n 0 dX8_mayStand_3 rfl rfl ?_
    refine z_getr fl_RX8_7 (by decide) rfl rfl dX8_mayStand_4 ?_
    refine z_iconst dX8_mayStand_7 ?_
    refine z_iald 1 (by decide) rfl rfl (by decide) (by decide) dX8_mayStand_8 ?_
    rw [h1]
    refine z_icmp_ge 80 (by omega) (by omega) dX8_mayStand_9 (by decide) (fun h_9 => ?_) (fun h_9 => ?_)
    · refine z_iconst dX8_mayStand_80 ?_
      exact z_bret (b := true) rfl dX8_mayStand_81 ((show chF h m s = true by rw [chF, ← show k = hN h by omega]; exact hc) ▸ hQ)
    · obtain ⟨e1, e2, e3, e4⟩ := H.m (show k < hN h by omega)
      have hpw := w.pa (show k < hN h by omega)
      have wk := (w.2.2.2.2.2.2.1 k (by omega)).1
      have hah := ahead w (show k < hN h by omega) hm
      refine z_aload_n 0 dX8_mayStand_12 rfl rfl ?_
      refine z_getr fl_RX8_16 (by decide) rfl rfl dX8_mayStand_13 ?_
      refine z_iload_n 3 dX8_mayStand_16 rfl rfl ?_
      refine z_iald _ (by decide) rfl rfl (by omega) (by decide) dX8_mayStand_17 ?_
      refine z_iconst dX8_mayStand_18 ?_
      rw [e1]
      refine z_icmp_ne 32 (by omega) (by omega) dX8_mayStand_19 (by decide) (fun h_19 => ?_) (fun h_19 => ?_)
      · refine z_aload_n 0 dX8_mayStand_32 rfl rfl ?_
        refine z_getr fl_RX8_16 (by decide) rfl rfl dX8_mayStand_33 ?_
        refine z_iload_n 1 dX8_mayStand_36 rfl rfl ?_
        refine z_iald _ (by decide) rfl rfl (by omega) (by decide) dX8_mayStand_37 ?_
        refine z_iconst dX8_mayStand_38 ?_
        rw [em]
        refine z_icmp_ne 56 (by omega) (by omega) dX8_mayStand_39 (by decide) (fun h_39 => ?_) (fun h_39 => ?_)
        · refine z_iconst dX8_mayStand_56 ?_
          have hb : hpa h k ≠ m := fun z => by have := hah.mpr z; omega
          refine z_istore (L' := [(0, _), (1, _), (2, _), (3, _), (4, _)]) dX8_mayStand_57 (by decide) rfl rfl ?_
          refine z_iload 4 dX8_mayStand_59 rfl ?_
          refine z_if_eq 74 (by decide) dX8_mayStand_61 (by decide) (fun h_61 => ?_) (fun h_61 => absurd h_61 (by decide))
          refine z_iinc 3 (L' := [(0, _), (1, _), (2, _), (3, _), (4, _)]) dX8_mayStand_74 (by decide) rfl rfl rfl ?_
          refine z_goto 2 dX8_mayStand_77 (by decide) ?_
          refine z_sub (L' := [(0, _), (1, _), (2, _), (3, _)]) [0, 1, 2, 3] rfl ?_
          exact ih (k + 1) (by rw [chN, hc, if_neg hb]; rfl) (by omega) (by omega)
        · refine z_aload_n 0 dX8_mayStand_42 rfl rfl ?_
          refine z_getr fl_RX8_16 (by decide) rfl rfl dX8_mayStand_43 ?_
          refine z_iload_n 3 dX8_mayStand_46 rfl rfl ?_
          refine z_iald _ (by decide) rfl rfl (by omega) (by decide) dX8_mayStand_47 ?_
          refine z_iconst dX8_mayStand_48 ?_
          rw [e1]
          refine z_icmp_ne 56 (by omega) (by omega) dX8_mayStand_49 (by decide) (fun h_49 => ?_) (fun h_49 => ?_)
          · refine z_iconst dX8_mayStand_56 ?_
            have hb : hpa h k ≠ m := fun z => by have := hah.mpr z; omega
            refine z_istore (L' := [(0, _), (1, _), (2, _), (3, _), (4, _)]) dX8_mayStand_57 (by decide) rfl rfl ?_
            refine z_iload 4 dX8_mayStand_59 rfl ?_
            refine z_if_eq 74 (by decide) dX8_mayStand_61 (by decide) (fun h_61 => ?_) (fun h_61 => absurd h_61 (by decide))
            refine z_iinc 3 (L' := [(0, _), (1, _), (2, _), (3, _), (4, _)]) dX8_mayStand_74 (by decide) rfl rfl rfl ?_
            refine z_goto 2 dX8_mayStand_77 (by decide) ?_
            refine z_sub (L' := [(0, _), (1, _), (2, _), (3, _)]) [0, 1, 2, 3] rfl ?_
            exact ih (k + 1) (by rw [chN, hc, if_neg hb]; rfl) (by omega) (by omega)
          · refine z_iconst dX8_mayStand_52 ?_
            refine z_goto 57 dX8_mayStand_53 (by decide) ?_
            have hb : hpa h k = m := hah.mp (by omega)
            refine z_istore (L' := [(0, _), (1, _), (2, _), (3, _), (4, _)]) dX8_mayStand_57 (by decide) rfl rfl ?_
            refine z_iload 4 dX8_mayStand_59 rfl ?_
            refine z_if_eq 74 (by decide) dX8_mayStand_61 (by decide) (fun h_61 => absurd h_61 (by decide)) (fun h_61 => ?_)
            refine z_iload_n 2 dX8_mayStand_64 rfl rfl ?_
            refine z_iload_n 3 dX8_mayStand_65 rfl rfl ?_
            refine z_cs (t8_has l hg d (m := k) (s := s) (by omega)) mk_X8_has ms_X8_has ml_RX8_133 (by omega) rfl rfl (Nat.le_of_ble_eq_true rfl) dX8_mayStand_66 (zpure ?_)
            refine z_if_ne_b 74 dX8_mayStand_69 (by decide) (fun h_69 => ?_) (fun h_69 => ?_)
            · refine z_iinc 3 (L' := [(0, _), (1, _), (2, _), (3, _), (4, _)]) dX8_mayStand_74 (by decide) rfl rfl rfl ?_
              refine z_goto 2 dX8_mayStand_77 (by decide) ?_
              refine z_sub (L' := [(0, _), (1, _), (2, _), (3, _)]) [0, 1, 2, 3] rfl ?_
              exact ih (k + 1) (by rw [chN, hc, if_pos hb, h_69]; rfl) (by omega) (by omega)
            · refine z_iconst dX8_mayStand_72 ?_
              exact z_bret (b := false) rfl dX8_mayStand_73 ((show chF h m s = false from chN_false (show k < hN h by omega) hb h_69) ▸ hQ)
      · refine z_aload_n 0 dX8_mayStand_22 rfl rfl ?_
        refine z_getr fl_RX8_19 (by decide) rfl rfl dX8_mayStand_23 ?_
        refine z_iload_n 3 dX8_mayStand_26 rfl rfl ?_
        refine z_iald _ (by decide) rfl rfl (by omega) (by decide) dX8_mayStand_27 ?_
        refine z_iload_n 1 dX8_mayStand_28 rfl rfl ?_
        rw [e2]
        refine z_icmp_eq 52 (by omega) (by omega) dX8_mayStand_29 (by decide) (fun h_29 => ?_) (fun h_29 => ?_)
        · refine z_iconst dX8_mayStand_52 ?_
          refine z_goto 57 dX8_mayStand_53 (by decide) ?_
          have hb : hpa h k = m := hah.mp (by omega)
          refine z_istore (L' := [(0, _), (1, _), (2, _), (3, _), (4, _)]) dX8_mayStand_57 (by decide) rfl rfl ?_
          refine z_iload 4 dX8_mayStand_59 rfl ?_
          refine z_if_eq 74 (by decide) dX8_mayStand_61 (by decide) (fun h_61 => absurd h_61 (by decide)) (fun h_61 => ?_)
          refine z_iload_n 2 dX8_mayStand_64 rfl rfl ?_
          refine z_iload_n 3 dX8_mayStand_65 rfl rfl ?_
          refine z_cs (t8_has l hg d (m := k) (s := s) (by omega)) mk_X8_has ms_X8_has ml_RX8_133 (by omega) rfl rfl (Nat.le_of_ble_eq_true rfl) dX8_mayStand_66 (zpure ?_)
          refine z_if_ne_b 74 dX8_mayStand_69 (by decide) (fun h_69 => ?_) (fun h_69 => ?_)
          · refine z_iinc 3 (L' := [(0, _), (1, _), (2, _), (3, _), (4, _)]) dX8_mayStand_74 (by decide) rfl rfl rfl ?_
            refine z_goto 2 dX8_mayStand_77 (by decide) ?_
            refine z_sub (L' := [(0, _), (1, _), (2, _), (3, _)]) [0, 1, 2, 3] rfl ?_
            exact ih (k + 1) (by rw [chN, hc, if_pos hb, h_69]; rfl) (by omega) (by omega)
          · refine z_iconst dX8_mayStand_72 ?_
            exact z_bret (b := false) rfl dX8_mayStand_73 ((show chF h m s = false from chN_false (show k < hN h by omega) hb h_69) ▸ hQ)
        · refine z_aload_n 0 dX8_mayStand_32 rfl rfl ?_
          refine z_getr fl_RX8_16 (by decide) rfl rfl dX8_mayStand_33 ?_
          refine z_iload_n 1 dX8_mayStand_36 rfl rfl ?_
          refine z_iald _ (by decide) rfl rfl (by omega) (by decide) dX8_mayStand_37 ?_
          refine z_iconst dX8_mayStand_38 ?_
          rw [em]
          refine z_icmp_ne 56 (by omega) (by omega) dX8_mayStand_39 (by decide) (fun h_39 => ?_) (fun h_39 => ?_)
          · refine z_iconst dX8_mayStand_56 ?_
            have hb : hpa h k ≠ m := fun z => by have := hah.mpr z; omega
            refine z_istore (L' := [(0, _), (1, _), (2, _), (3, _), (4, _)]) dX8_mayStand_57 (by decide) rfl rfl ?_
            refine z_iload 4 dX8_mayStand_59 rfl ?_
            refine z_if_eq 74 (by decide) dX8_mayStand_61 (by decide) (fun h_61 => ?_) (fun h_61 => absurd h_61 (by decide))
            refine z_iinc 3 (L' := [(0, _), (1, _), (2, _), (3, _), (4, _)]) dX8_mayStand_74 (by decide) rfl rfl rfl ?_
            refine z_goto 2 dX8_mayStand_77 (by decide) ?_
            refine z_sub (L' := [(0, _), (1, _), (2, _), (3, _)]) [0, 1, 2, 3] rfl ?_
            exact ih (k + 1) (by rw [chN, hc, if_neg hb]; rfl) (by omega) (by omega)
          · refine z_aload_n 0 dX8_mayStand_42 rfl rfl ?_
            refine z_getr fl_RX8_16 (by decide) rfl rfl dX8_mayStand_43 ?_
            refine z_iload_n 3 dX8_mayStand_46 rfl rfl ?_
            refine z_iald _ (by decide) rfl rfl (by omega) (by decide) dX8_mayStand_47 ?_
            refine z_iconst dX8_mayStand_48 ?_
            rw [e1]
            refine z_icmp_ne 56 (by omega) (by omega) dX8_mayStand_49 (by decide) (fun h_49 => ?_) (fun h_49 => ?_)
            · refine z_iconst dX8_mayStand_56 ?_
              have hb : hpa h k ≠ m := fun z => by have := hah.mpr z; omega
              refine z_istore (L' := [(0, _), (1, _), (2, _), (3, _), (4, _)]) dX8_mayStand_57 (by decide) rfl rfl ?_
              refine z_iload 4 dX8_mayStand_59 rfl ?_
              refine z_if_eq 74 (by decide) dX8_mayStand_61 (by decide) (fun h_61 => ?_) (fun h_61 => absurd h_61 (by decide))
              refine z_iinc 3 (L' := [(0, _), (1, _), (2, _), (3, _), (4, _)]) dX8_mayStand_74 (by decide) rfl rfl rfl ?_
              refine z_goto 2 dX8_mayStand_77 (by decide) ?_
              refine z_sub (L' := [(0, _), (1, _), (2, _), (3, _)]) [0, 1, 2, 3] rfl ?_
              exact ih (k + 1) (by rw [chN, hc, if_neg hb]; rfl) (by omega) (by omega)
            · refine z_iconst dX8_mayStand_52 ?_
              refine z_goto 57 dX8_mayStand_53 (by decide) ?_
              have hb : hpa h k = m := hah.mp (by omega)
              refine z_istore (L' := [(0, _), (1, _), (2, _), (3, _), (4, _)]) dX8_mayStand_57 (by decide) rfl rfl ?_
              refine z_iload 4 dX8_mayStand_59 rfl ?_
              refine z_if_eq 74 (by decide) dX8_mayStand_61 (by decide) (fun h_61 => absurd h_61 (by decide)) (fun h_61 => ?_)
              refine z_iload_n 2 dX8_mayStand_64 rfl rfl ?_
              refine z_iload_n 3 dX8_mayStand_65 rfl rfl ?_
              refine z_cs (t8_has l hg d (m := k) (s := s) (by omega)) mk_X8_has ms_X8_has ml_RX8_133 (by omega) rfl rfl (Nat.le_of_ble_eq_true rfl) dX8_mayStand_66 (zpure ?_)
              refine z_if_ne_b 74 dX8_mayStand_69 (by decide) (fun h_69 => ?_) (fun h_69 => ?_)
              · refine z_iinc 3 (L' := [(0, _), (1, _), (2, _), (3, _), (4, _)]) dX8_mayStand_74 (by decide) rfl rfl rfl ?_
                refine z_goto 2 dX8_mayStand_77 (by decide) ?_
                refine z_sub (L' := [(0, _), (1, _), (2, _), (3, _)]) [0, 1, 2, 3] rfl ?_
                exact ih (k + 1) (by rw [chN, hc, if_pos hb, h_69]; rfl) (by omega) (by omega)
              · refine z_iconst dX8_mayStand_72 ?_
                exact z_bret (b := false) rfl dX8_mayStand_73 ((show chF h m s = false from chN_false (show k < hN h by omega) hb h_69) ▸ hQ)
theorem t8_mayStand (l : Launch) {g : zG} (hg : zAmOk g) {d : zD} {h : Hl} (w : Wf h) (H : HM d h) {m s : Nat} (hm : m < hN h) : zC l g mX8_mayStand 2 [zr g 37, zi (m : Int), zi (s : Int)] d (zpu (zi (zb (chF h m s))) d) := by
  refine zC_of (L := [(0, _), (1, _), (2, _)]) mk_X8_mayStand (Nat.le_of_ble_eq_true rfl) hg rfl (fun x => ?_)
  refine z_iconst dX8_mayStand_0 ?_
  refine z_istore_n (L' := [(0, _), (1, _), (2, _), (3, _)]) dX8_mayStand_1 rfl (by decide) rfl rfl ?_
  exact lp8_mayStand hg w H hm (by omega) ⟨rfl, rfl⟩ (hN h + 1) 0 rfl (by omega) (by omega)
/-- the row laid out -/
def RW (d : zD) (f : Nat → Nat) (n : Nat) : Prop := ∀ i, i < n → d 58 i = f i
theorem RW.of {d d' : zD} {f : Nat → Nat} {n : Nat} (H : RW d f n) (e : d' 58 = d 58) : RW d' f n := fun i hi => by rw [e]; exact H i hi
theorem t8_laysLeast (l : Launch) {g : zG} (hg : zAmOk g) {d : zD} {h : Hl} (w : Wf h) (H : HM d h) : zC l g mX8_laysLeast 3 [zr g 37] d (fun r d' => r = none ∧ (zF [58] d d' ∧ RW d' (leastO h) (hN h))) := by
  have w3 := w.2.2.1
  have key2 : ∀ (x : zX) (Q : Option Value → zD → Prop) (s k m : Nat) (d1 : zD), HM d1 h → isLn h s m → zV l x g mX8_laysLeast 3 Q 39 [(0, zr g 37), (1, zi (s : Int)), (2, zi (k : Int)), (3, zi (m : Int))] [] d1 → ∀ r j, j ≤ m → m - j < r → zV l x g mX8_laysLeast 3 Q 16 [(0, zr g 37), (1, zi (s : Int)), (2, zi (k : Int)), (3, zi (j : Int))] [] d1 := by
    intro x Q s k m d1 H1 hm kk r
    obtain ⟨m1, m2, m3⟩ := hm
    simp only [okB] at m2 m3
    induction r with
    | zero => intro j hj hr; omega
    | succ r ih =>
      intro j hj hr
      refine z_iload_n 1 dX8_laysLeast_16 rfl rfl ?_
      refine z_iload_n 3 dX8_laysLeast_17 rfl rfl ?_
      refine z_cs (t8_has l hg d1 (m := j) (s := s) (by omega)) mk_X8_has ms_X8_has ml_RX8_133 (by omega) rfl rfl (Nat.le_of_ble_eq_true rfl) dX8_laysLeast_18 (zpure ?_)
      refine z_if_ne_b 33 dX8_laysLeast_21 (by decide) (fun h_21 => ?_) (fun h_21 => ?_)
      · refine z_iinc 3 (L' := [(0, _), (1, _), (2, _), (3, _)]) dX8_laysLeast_33 (by decide) rfl rfl rfl ?_
        refine z_goto 16 dX8_laysLeast_36 (by decide) ?_
        have e : j ≠ m := fun z => by subst z; rw [h_21] at m2; cases m2
        exact ih (j + 1) (by omega) (by omega)
      · refine z_aload_n 0 dX8_laysLeast_24 rfl rfl ?_
        refine z_iload_n 3 dX8_laysLeast_25 rfl rfl ?_
        refine z_iload_n 1 dX8_laysLeast_26 rfl rfl ?_
        refine z_cv (t8_mayStand l hg w H1 (m := j) (s := s) (by omega)) mk_X8_mayStand mi_X8_mayStand ml_RX8_223 (by omega) (by decide) rfl rfl rfl rfl (Nat.le_of_ble_eq_true rfl) dX8_laysLeast_27 (zpure ?_)
        refine z_if_ne_b 39 dX8_laysLeast_30 (by decide) (fun h_30 => ?_) (fun h_30 => ?_)
        · have e : j = m := Classical.byContradiction fun e => by have := m3 j (by omega); rw [h_21, h_30] at this; cases this
          subst e
          exact kk
        · refine z_iinc 3 (L' := [(0, _), (1, _), (2, _), (3, _)]) dX8_laysLeast_33 (by decide) rfl rfl rfl ?_
          refine z_goto 16 dX8_laysLeast_36 (by decide) ?_
          have e : j ≠ m := fun z => by subst z; rw [h_21, h_30] at m2; cases m2
          exact ih (j + 1) (by omega) (by omega)
  have key1 : ∀ (x : zX) (r k : Nat) (d1 : zD), zF [58] d d1 → RW d1 (leastO h) k → k ≤ hN h → hN h - k < r → zV l x g mX8_laysLeast 3 (fun r d' => r = none ∧ (zF [58] d d' ∧ RW d' (leastO h) (hN h))) 4 [(0, zr g 37), (1, zi (plN h k : Nat)), (2, zi (k : Int))] [] d1 := by
    intro x r
    induction r with
    | zero => intro k d1 h1 h2 h3 hr; omega
    | succ r ih =>
      intro k d1 F e1 hk hr
      have H1 : HM d1 h := HM.of H F (by decide)
      have h1 : d1 38 1 = hN h := H1.1.2.1
      refine z_iload_n 2 dX8_laysLeast_4 rfl rfl ?_
      refine z_aload_n 0 dX8_laysLeast_5 rfl rfl ?_
      refine z_getr fl_RX8_7 (by decide) rfl rfl dX8_laysLeast_6 ?_
      refine z_iconst dX8_laysLeast_9 ?_
      refine z_iald 1 (by decide) rfl rfl (by decide) (by decide) dX8_laysLeast_10 ?_
      rw [h1]
      refine z_icmp_ge 58 (by omega) (by omega) dX8_laysLeast_11 (by decide) (fun h_11 => ?_) (fun h_11 => ?_)
      · exact z_vret rfl dX8_laysLeast_58 (⟨rfl, F, fun i hi => e1 i (by omega)⟩)
      · refine z_iconst dX8_laysLeast_14 ?_
        refine z_istore_n (L' := [(0, _), (1, _), (2, _), (3, _)]) dX8_laysLeast_15 rfl (by decide) rfl rfl ?_
        have hl := least_is w (show k < hN h by omega)
        refine key2 x _ (plN h k) k (leastO h k) d1 H1 hl ?_ (leastO h k + 1) 0 (by omega) (by omega)
        have hb := bit_le hl.1 w3
        refine z_aload_n 0 dX8_laysLeast_39 rfl rfl ?_
        refine z_getr fl_RX8_70 (by decide) rfl rfl dX8_laysLeast_40 ?_
        refine z_iload_n 2 dX8_laysLeast_43 rfl rfl ?_
        refine z_iload_n 3 dX8_laysLeast_44 rfl rfl ?_
        refine z_iast _ (by decide) rfl rfl (by omega) (by decide) dX8_laysLeast_45 ?_
        refine z_iload_n 1 dX8_laysLeast_46 rfl rfl ?_
        refine z_iconst dX8_laysLeast_47 ?_
        refine z_iload_n 3 dX8_laysLeast_48 rfl rfl ?_
        refine z_ishl _ (zshl (s := 1) (m := leastO h k) (by have := hl.1; omega) (by omega)) dX8_laysLeast_49 ?_
        rw [Nat.one_mul]
        refine z_ior _ (zor _ _) dX8_laysLeast_50 ?_
        refine z_istore_n (L' := [(0, _), (1, _), (2, _), (3, _)]) dX8_laysLeast_51 rfl (by decide) rfl rfl ?_
        refine z_iinc 2 (L' := [(0, _), (1, _), (2, _), (3, _)]) dX8_laysLeast_52 (by decide) rfl rfl rfl ?_
        refine z_goto 4 dX8_laysLeast_55 (by decide) ?_
        refine z_sub (L' := [(0, _), (1, _), (2, _)]) [0, 1, 2] rfl ?_
        refine ih (k + 1) _ (F.up (by decide)) (fun i hi => ?_) (by omega) (by omega)
        rw [zu_row]
        split
        · rename_i e; rw [e]
        · exact e1 i (by omega)
  refine zC_of (L := [(0, _)]) mk_X8_laysLeast (Nat.le_of_ble_eq_true rfl) hg rfl (fun x => ?_)
  refine z_iconst dX8_laysLeast_0 ?_
  refine z_istore_n (L' := [(0, _), (1, _)]) dX8_laysLeast_1 rfl (by decide) rfl rfl ?_
  refine z_iconst dX8_laysLeast_2 ?_
  refine z_istore_n (L' := [(0, _), (1, _), (2, _)]) dX8_laysLeast_3 rfl (by decide) rfl rfl ?_
  exact key1 x (hN h + 1) 0 d zF.rf (fun i hi => absurd hi (by omega)) (by omega) (by omega)
theorem t8_isGood (l : Launch) {g : zG} (hg : zAmOk g) {d : zD} {h : Hl} (w : Wf h) (H : HM d h) {f : Nat → Nat} (R : RW d f (hN h)) (hf : ∀ i, i < hN h → f i < 2147483648) : zC l g mX8_isGood 3 [zr g 37] d (zpu (zi (zb (goodO h f))) d) := by
  have w3 := w.2.2.1
  have hp2 := p64 w3
  have h1 : d 38 1 = hN h := H.1.2.1
  have key1 : ∀ (x : zX) (r k : Nat), goodN h f k = true → k ≤ hN h → hN h - k < r → zV l x g mX8_isGood 3 (zpu (zi (zb (goodO h f))) d) 4 [(0, zr g 37), (1, zi (grN f k : Nat)), (2, zi (k : Int))] [] d := by
    intro x r
    induction r with
    | zero => intro k h1 h2 hr; omega
    | succ r ih =>
      intro k hgd hk hr
      have hlt : ∀ i, i < k → f i < hN h := fun i hi => by
        have h1 : goodN h f (i + 1) = true := goodN_le (show i + 1 ≤ k by omega) hgd
        rw [goodN, Bool.and_eq_true, Bool.and_eq_true, decide_eq_true_eq] at h1
        exact h1.2.1
      have hgl := grN_lt k hlt
      have hno : (decide (f k < hN h) && (!(grN f k).testBit (f k) && chF h (f k) (grN f k))) = false → k < hN h → goodO h f = false := fun hb hkN => by
        cases hc : goodO h f with
        | false => rfl
        | true =>
          have h1 : goodN h f (k + 1) = true := goodN_le (show k + 1 ≤ hN h by omega) hc
          rw [goodN, hgd, hb] at h1
          cases h1
      refine z_iload_n 2 dX8_isGood_4 rfl rfl ?_
      refine z_aload_n 0 dX8_isGood_5 rfl rfl ?_
      refine z_getr fl_RX8_7 (by decide) rfl rfl dX8_isGood_6 ?_
      refine z_iconst dX8_isGood_9 ?_
      refine z_iald 1 (by decide) rfl rfl (by decide) (by decide) dX8_isGood_10 ?_
      rw [h1]
      refine z_icmp_ge 62 (by omega) (by omega) dX8_isGood_11 (by decide) (fun h_11 => ?_) (fun h_11 => ?_)
      · refine z_iconst dX8_isGood_62 ?_
        exact z_bret (b := true) rfl dX8_isGood_63 (zret_b (show true = goodO h f by rw [goodO, ← show k = hN h by omega]; exact hgd.symm))
      · have e := R k (by omega)
        have hfk := hf k (by omega)
        refine z_aload_n 0 dX8_isGood_14 rfl rfl ?_
        refine z_getr fl_RX8_70 (by decide) rfl rfl dX8_isGood_15 ?_
        refine z_iload_n 2 dX8_isGood_18 rfl rfl ?_
        refine z_iald _ (by decide) rfl rfl (by omega) (by decide) dX8_isGood_19 ?_
        rw [e]
        refine z_istore_n (L' := [(0, _), (1, _), (2, _), (3, _)]) dX8_isGood_20 rfl (by decide) rfl rfl ?_
        refine z_iload_n 3 dX8_isGood_21 rfl rfl ?_
        refine z_aload_n 0 dX8_isGood_22 rfl rfl ?_
        refine z_getr fl_RX8_7 (by decide) rfl rfl dX8_isGood_23 ?_
        refine z_iconst dX8_isGood_26 ?_
        refine z_iald 1 (by decide) rfl rfl (by decide) (by decide) dX8_isGood_27 ?_
        rw [h1]
        refine z_icmp_ge 48 (by omega) (by omega) dX8_isGood_28 (by decide) (fun h_28 => ?_) (fun h_28 => ?_)
        · refine z_iconst dX8_isGood_48 ?_
          have hnn := hno (by rw [decide_eq_false (by omega)]; rfl) (by omega)
          exact z_bret (b := false) rfl dX8_isGood_49 (zret_b hnn.symm)
        · refine z_iload_n 1 dX8_isGood_31 rfl rfl ?_
          refine z_iload_n 3 dX8_isGood_32 rfl rfl ?_
          refine z_cs (t8_has l hg d (m := f k) (s := grN f k) (by omega)) mk_X8_has ms_X8_has ml_RX8_133 (by omega) rfl rfl (Nat.le_of_ble_eq_true rfl) dX8_isGood_33 (zpure ?_)
          refine z_if_ne_b 48 dX8_isGood_36 (by decide) (fun h_36 => ?_) (fun h_36 => ?_)
          · refine z_iconst dX8_isGood_48 ?_
            have hnn := hno (by rw [h_36]; simp) (by omega)
            exact z_bret (b := false) rfl dX8_isGood_49 (zret_b hnn.symm)
          · refine z_aload_n 0 dX8_isGood_39 rfl rfl ?_
            refine z_iload_n 3 dX8_isGood_40 rfl rfl ?_
            refine z_iload_n 1 dX8_isGood_41 rfl rfl ?_
            refine z_cv (t8_mayStand l hg w H (m := f k) (s := grN f k) (by omega)) mk_X8_mayStand mi_X8_mayStand ml_RX8_223 (by omega) (by decide) rfl rfl rfl rfl (Nat.le_of_ble_eq_true rfl) dX8_isGood_42 (zpure ?_)
            refine z_if_ne_b 50 dX8_isGood_45 (by decide) (fun h_45 => ?_) (fun h_45 => ?_)
            · refine z_iload_n 1 dX8_isGood_50 rfl rfl ?_
              refine z_iconst dX8_isGood_51 ?_
              refine z_iload_n 3 dX8_isGood_52 rfl rfl ?_
              have hb := bit_le (show f k < hN h by omega) w3
              refine z_ishl _ (zshl (s := 1) (m := f k) (by omega) (by omega)) dX8_isGood_53 ?_
              rw [Nat.one_mul]
              refine z_ior _ (zor _ _) dX8_isGood_54 ?_
              refine z_istore_n (L' := [(0, _), (1, _), (2, _), (3, _)]) dX8_isGood_55 rfl (by decide) rfl rfl ?_
              refine z_iinc 2 (L' := [(0, _), (1, _), (2, _), (3, _)]) dX8_isGood_56 (by decide) rfl rfl rfl ?_
              refine z_goto 4 dX8_isGood_59 (by decide) ?_
              refine z_sub (L' := [(0, _), (1, _), (2, _)]) [0, 1, 2] rfl ?_
              exact ih (k + 1) (by rw [goodN, hgd, h_36, h_45, decide_eq_true (by omega)]; rfl) (by omega) (by omega)
            · refine z_iconst dX8_isGood_48 ?_
              have hnn := hno (by rw [h_45, Bool.and_false, Bool.and_false]) (by omega)
              exact z_bret (b := false) rfl dX8_isGood_49 (zret_b hnn.symm)
  refine zC_of (L := [(0, _)]) mk_X8_isGood (Nat.le_of_ble_eq_true rfl) hg rfl (fun x => ?_)
  refine z_iconst dX8_isGood_0 ?_
  refine z_istore_n (L' := [(0, _), (1, _)]) dX8_isGood_1 rfl (by decide) rfl rfl ?_
  refine z_iconst dX8_isGood_2 ?_
  refine z_istore_n (L' := [(0, _), (1, _), (2, _)]) dX8_isGood_3 rfl (by decide) rfl rfl ?_
  exact key1 x (hN h + 1) 0 rfl (by omega) (by omega)
theorem t8_laysOrder (l : Launch) {g : zG} (hg : zAmOk g) {d : zD} {h : Hl} (w : Wf h) (H : HM d h) {ord : Nat → Nat} (O : ∀ i, i < hN h → d 56 i = ord i) : zC l g mX8_laysOrder 1 [zr g 37] d (fun r d' => r = none ∧ (zF [58] d d' ∧ RW d' ord (hN h))) := by
  have w3 := w.2.2.1
  have key1 : ∀ (x : zX) (r k : Nat) (d1 : zD), zF [58] d d1 → RW d1 ord k → k ≤ hN h → hN h - k < r → zV l x g mX8_laysOrder 1 (fun r d' => r = none ∧ (zF [58] d d' ∧ RW d' ord (hN h))) 2 [(0, zr g 37), (1, zi (k : Int))] [] d1 := by
    intro x r
    induction r with
    | zero => intro k d1 h1 h2 h3 hr; omega
    | succ r ih =>
      intro k d1 F e1 hk hr
      have H1 : HM d1 h := HM.of H F (by decide)
      have h1 : d1 38 1 = hN h := H1.1.2.1
      refine z_iload_n 1 dX8_laysOrder_2 rfl rfl ?_
      refine z_aload_n 0 dX8_laysOrder_3 rfl rfl ?_
      refine z_getr fl_RX8_7 (by decide) rfl rfl dX8_laysOrder_4 ?_
      refine z_iconst dX8_laysOrder_7 ?_
      refine z_iald 1 (by decide) rfl rfl (by decide) (by decide) dX8_laysOrder_8 ?_
      rw [h1]
      refine z_icmp_ge 30 (by omega) (by omega) dX8_laysOrder_9 (by decide) (fun h_9 => ?_) (fun h_9 => ?_)
      · exact z_vret rfl dX8_laysOrder_30 (⟨rfl, F, fun i hi => e1 i (by omega)⟩)
      · refine z_aload_n 0 dX8_laysOrder_12 rfl rfl ?_
        refine z_getr fl_RX8_70 (by decide) rfl rfl dX8_laysOrder_13 ?_
        refine z_iload_n 1 dX8_laysOrder_16 rfl rfl ?_
        refine z_aload_n 0 dX8_laysOrder_17 rfl rfl ?_
        refine z_getr fl_RX8_64 (by decide) rfl rfl dX8_laysOrder_18 ?_
        refine z_iload_n 1 dX8_laysOrder_21 rfl rfl ?_
        refine z_iald _ (by decide) rfl rfl (by omega) (by decide) dX8_laysOrder_22 ?_
        rw [F 56 (by decide), O k (by omega)]
        refine z_iast _ (by decide) rfl rfl (by omega) (by decide) dX8_laysOrder_23 ?_
        refine z_iinc 1 (L' := [(0, _), (1, _)]) dX8_laysOrder_24 (by decide) rfl rfl rfl ?_
        refine z_goto 2 dX8_laysOrder_27 (by decide) ?_
        refine ih (k + 1) _ (F.up (by decide)) (fun i hi => ?_) (by omega) (by omega)
        rw [zu_row]
        split
        · rename_i e; rw [e]
        · exact e1 i (by omega)
  refine zC_of (L := [(0, _)]) mk_X8_laysOrder (Nat.le_of_ble_eq_true rfl) hg rfl (fun x => ?_)
  refine z_iconst dX8_laysOrder_0 ?_
  refine z_istore_n (L' := [(0, _), (1, _)]) dX8_laysOrder_1 rfl (by decide) rfl rfl ?_
  exact key1 x (hN h + 1) 0 d zF.rf (fun i hi => absurd hi (by omega)) (by omega) (by omega)
theorem t8_laysFirst (l : Launch) {g : zG} (hg : zAmOk g) {d : zD} {h : Hl} (w : Wf h) (H : HM d h) : zC l g mX8_laysFirst 1 [zr g 37] d (fun r d' => r = none ∧ (zF [58] d d' ∧ RW d' (fun i => i) (hN h))) := by
  have w3 := w.2.2.1
  have key1 : ∀ (x : zX) (r k : Nat) (d1 : zD), zF [58] d d1 → RW d1 (fun i => i) k → k ≤ hN h → hN h - k < r → zV l x g mX8_laysFirst 1 (fun r d' => r = none ∧ (zF [58] d d' ∧ RW d' (fun i => i) (hN h))) 2 [(0, zr g 37), (1, zi (k : Int))] [] d1 := by
    intro x r
    induction r with
    | zero => intro k d1 h1 h2 h3 hr; omega
    | succ r ih =>
      intro k d1 F e1 hk hr
      have H1 : HM d1 h := HM.of H F (by decide)
      have h1 : d1 38 1 = hN h := H1.1.2.1
      refine z_iload_n 1 dX8_laysFirst_2 rfl rfl ?_
      refine z_aload_n 0 dX8_laysFirst_3 rfl rfl ?_
      refine z_getr fl_RX8_7 (by decide) rfl rfl dX8_laysFirst_4 ?_
      refine z_iconst dX8_laysFirst_7 ?_
      refine z_iald 1 (by decide) rfl rfl (by decide) (by decide) dX8_laysFirst_8 ?_
      rw [h1]
      refine z_icmp_ge 25 (by omega) (by omega) dX8_laysFirst_9 (by decide) (fun h_9 => ?_) (fun h_9 => ?_)
      · exact z_vret rfl dX8_laysFirst_25 (⟨rfl, F, fun i hi => e1 i (by omega)⟩)
      · refine z_aload_n 0 dX8_laysFirst_12 rfl rfl ?_
        refine z_getr fl_RX8_70 (by decide) rfl rfl dX8_laysFirst_13 ?_
        refine z_iload_n 1 dX8_laysFirst_16 rfl rfl ?_
        refine z_iload_n 1 dX8_laysFirst_17 rfl rfl ?_
        refine z_iast _ (by decide) rfl rfl (by omega) (by decide) dX8_laysFirst_18 ?_
        refine z_iinc 1 (L' := [(0, _), (1, _)]) dX8_laysFirst_19 (by decide) rfl rfl rfl ?_
        refine z_goto 2 dX8_laysFirst_22 (by decide) ?_
        refine ih (k + 1) _ (F.up (by decide)) (fun i hi => ?_) (by omega) (by omega)
        rw [zu_row]
        split
        · rename_i e; rw [e]
        · exact e1 i (by omega)
  refine zC_of (L := [(0, _)]) mk_X8_laysFirst (Nat.le_of_ble_eq_true rfl) hg rfl (fun x => ?_)
  refine z_iconst dX8_laysFirst_0 ?_
  refine z_istore_n (L' := [(0, _), (1, _)]) dX8_laysFirst_1 rfl (by decide) rfl rfl ?_
  exact key1 x (hN h + 1) 0 d zF.rf (fun i hi => absurd hi (by omega)) (by omega) (by omega)
def pkN (f : Nat → Nat) (n : Nat) : Nat → Nat
  | 0 => 0
  | j + 1 => pkN f n j * 16 + f (n - 1 - j)
theorem pkN_lt {f : Nat → Nat} {n : Nat} : ∀ j, j ≤ n → (∀ i, i < n → f i < 16) → pkN f n j < 16 ^ j
  | 0, _, _ => by simp [pkN]
  | j + 1, hj, h => by
    have ih := pkN_lt (f := f) (n := n) j (by omega) h
    have := h (n - 1 - j) (by omega)
    rw [pkN, Nat.pow_succ]
    omega
theorem or16 {a b : Nat} (hb : b < 16) : a * 16 ||| b = a * 16 + b := by
  have := Nat.shiftLeft_add_eq_or_of_lt (i := 4) hb a
  rw [Nat.shiftLeft_eq, show (2 : Nat) ^ 4 = 16 from rfl] at this
  omega
theorem t8_packed (l : Launch) {g : zG} (hg : zAmOk g) {d : zD} {h : Hl} (w : Wf h) (H : HM d h) {f : Nat → Nat} (R : RW d f (hN h)) (hf : ∀ i, i < hN h → f i < 16) : zC l g mX8_packed 1 [zr g 37] d (zpu (zi (pkN f (hN h) (hN h) : Nat)) d) := by
  have w3 := w.2.2.1
  have h1 : d 38 1 = hN h := H.1.2.1
  have key1 : ∀ (x : zX) (r j : Nat), j ≤ hN h → hN h - j < r → zV l x g mX8_packed 1 (zpu (zi (pkN f (hN h) (hN h) : Nat)) d) 11 [(0, zr g 37), (1, zi (pkN f (hN h) j : Nat)), (2, zi ((hN h : Int) - 1 - (j : Int)))] [] d := by
    intro x r
    induction r with
    | zero => intro j hj hr; omega
    | succ r ih =>
      intro j hj hr
      have hpl := pkN_lt j hj hf
      have hpw : 16 ^ j ≤ 16777216 := Nat.pow_le_pow_right (n := 16) (by decide) (show j ≤ 6 by omega)
      refine z_iload_n 2 dX8_packed_11 rfl rfl ?_
      refine z_if_lt 32 (by omega) dX8_packed_12 (by decide) (fun h_12 => ?_) (fun h_12 => ?_)
      · refine z_iload_n 1 dX8_packed_32 rfl rfl ?_
        rw [show j = hN h by omega]
        exact z_iret rfl dX8_packed_33 (⟨rfl, rfl⟩)
      · have hl6 : j < hN h := by omega
        have hpw2 : 16 ^ j ≤ 1048576 := Nat.pow_le_pow_right (n := 16) (by decide) (show j ≤ 5 by omega)
        refine z_iload_n 1 dX8_packed_15 rfl rfl ?_
        refine z_iconst dX8_packed_16 ?_
        refine z_ishl _ (zshl (s := pkN f (hN h) j) (m := 4) (by decide) (by omega)) dX8_packed_17 ?_
        refine z_aload_n 0 dX8_packed_18 rfl rfl ?_
        refine z_getr fl_RX8_70 (by decide) rfl rfl dX8_packed_19 ?_
        refine z_iload_n 2 dX8_packed_22 rfl rfl ?_
        refine z_iald (hN h - 1 - j) (by decide) rfl (by omega) (by omega) (by decide) dX8_packed_23 ?_
        rw [R (hN h - 1 - j) (by omega)]
        refine z_ior _ (zor _ _) dX8_packed_24 ?_
        rw [show (2 : Nat) ^ 4 = 16 from rfl, or16 (hf _ (by omega)), show pkN f (hN h) j * 16 + f (hN h - 1 - j) = pkN f (hN h) (j + 1) from rfl]
        refine z_istore_n (L' := [(0, _), (1, _), (2, _)]) dX8_packed_25 rfl (by decide) rfl rfl ?_
        refine z_iinc 2 (L' := [(0, _), (1, _), (2, _)]) dX8_packed_26 (by decide) rfl rfl rfl ?_
        refine z_goto 11 dX8_packed_29 (by decide) ?_
        refine z_LL _ ?_ (ih (j + 1) (by omega) (by omega))
        rw [show (hN h : Int) - 1 - (j : Int) + -1 = (hN h : Int) - 1 - ((j + 1 : Nat) : Int) by omega]
  refine zC_of (L := [(0, _)]) mk_X8_packed (Nat.le_of_ble_eq_true rfl) hg rfl (fun x => ?_)
  refine z_iconst dX8_packed_0 ?_
  refine z_istore_n (L' := [(0, _), (1, _)]) dX8_packed_1 rfl (by decide) rfl rfl ?_
  refine z_aload_n 0 dX8_packed_2 rfl rfl ?_
  refine z_getr fl_RX8_7 (by decide) rfl rfl dX8_packed_3 ?_
  refine z_iconst dX8_packed_6 ?_
  refine z_iald 1 (by decide) rfl rfl (by decide) (by decide) dX8_packed_7 ?_
  refine z_iconst dX8_packed_8 ?_
  rw [h1]
  refine z_isub dX8_packed_9 ?_
  refine z_istore_n (L' := [(0, _), (1, _), (2, _)]) dX8_packed_10 rfl (by decide) rfl rfl ?_
  refine z_LL _ ?_ (key1 x (hN h + 1) 0 (by omega) (by omega))
  rw [show (hN h : Int) - 1 - ((0 : Nat) : Int) = (hN h : Int) - 1 by omega]; rfl
