/-! the reference: forms, likings, orders -/
theorem HM.m {d : zD} {h : Hl} (H : HM d h) {k : Nat} (hk : k < hN h) : d 40 k = hso h k ∧ d 41 k = hpa h k ∧ d 42 k = hpl h k ∧ d 43 k = hmi h k := H.2.1 k hk
theorem lp8_plusOf {l : Launch} {x : zX} {g : zG} {n : Nat} {Q : Option Value → zD → Prop} {d : zD} {h : Hl} {m s : Nat} (hg : zAmOk g) (w : Wf h) (H : HM d h) (hm : m < hN h) (hn : 1 < n) (hQ : Q (some (zi (plusF h m s : Nat))) d) : ∀ r k, k ≤ hN h → hN h - k < r → zV l x g mX8_plusOf n Q 10 [(0, zr g 37), (1, zi (m : Int)), (2, zi (s : Int)), (3, zi (plusN h m s k : Nat)), (4, zi (k : Int))] [] d := by
  have w3 := w.2.2.1
  have h1 : d 38 1 = hN h := H.1.2.1
  intro r
  induction r with
  | zero => intro k hk hr; omega
  | succ r ih =>
    intro k hk hr
    refine z_iload 4 dX8_plusOf_10 rfl ?_
    refine z_aload_n 0 dX8_plusOf_12 rfl rfl ?_
    refine z_getr fl_RX8_7 (by decide) rfl rfl dX8_plusOf_13 ?_
    refine z_iconst dX8_plusOf_16 ?_
    refine z_iald 1 (by decide) rfl rfl (by decide) (by decide) dX8_plusOf_17 ?_
    rw [h1]
    refine z_icmp_ge 78 (by omega) (by omega) dX8_plusOf_18 (by decide) (fun h_18 => ?_) (fun h_18 => ?_)
    · have hkN : k = hN h := by omega
      rw [hkN]
      refine z_iload_n 3 dX8_plusOf_78 rfl rfl ?_
      exact z_iret rfl dX8_plusOf_79 (hQ)
    · obtain ⟨e1, e2, e3, e4⟩ := H.m (show k < hN h by omega)
      have w1 := (w.2.2.2.2.2.2.1 k (by omega)).1
      refine z_aload_n 0 dX8_plusOf_21 rfl rfl ?_
      refine z_getr fl_RX8_16 (by decide) rfl rfl dX8_plusOf_22 ?_
      refine z_iload 4 dX8_plusOf_25 rfl ?_
      refine z_iald _ (by decide) rfl rfl (by omega) (by decide) dX8_plusOf_27 ?_
      refine z_iconst dX8_plusOf_28 ?_
      rw [e1]
      refine z_icmp_ne 72 (by omega) (by omega) dX8_plusOf_29 (by decide) (fun h_29 => ?_) (fun h_29 => ?_)
      · refine z_iinc 4 (L' := [(0, _), (1, _), (2, _), (3, _), (4, _)]) dX8_plusOf_72 (by decide) rfl rfl rfl ?_
        refine z_goto 10 dX8_plusOf_75 (by decide) ?_
        refine z_LL _ ?_ (ih (k + 1) (by omega) (by omega))
        rw [plusN]
        first | (rw [if_neg (fun hc => by obtain ⟨c1, c2, c3⟩ := hc; first | omega | simp_all)]; rfl) | (rw [if_pos ⟨by omega, by omega, by assumption⟩]; rfl)
      · refine z_aload_n 0 dX8_plusOf_32 rfl rfl ?_
        refine z_getr fl_RX8_19 (by decide) rfl rfl dX8_plusOf_33 ?_
        refine z_iload 4 dX8_plusOf_36 rfl ?_
        refine z_iald _ (by decide) rfl rfl (by omega) (by decide) dX8_plusOf_38 ?_
        refine z_iload_n 1 dX8_plusOf_39 rfl rfl ?_
        rw [e2]
        refine z_icmp_ne 72 (by have := w.2.2.2.2.2.2.1 k (by omega); omega) (by omega) dX8_plusOf_40 (by decide) (fun h_40 => ?_) (fun h_40 => ?_)
        · refine z_iinc 4 (L' := [(0, _), (1, _), (2, _), (3, _), (4, _)]) dX8_plusOf_72 (by decide) rfl rfl rfl ?_
          refine z_goto 10 dX8_plusOf_75 (by decide) ?_
          refine z_LL _ ?_ (ih (k + 1) (by omega) (by omega))
          rw [plusN]
          first | (rw [if_neg (fun hc => by obtain ⟨c1, c2, c3⟩ := hc; first | omega | simp_all)]; rfl) | (rw [if_pos ⟨by omega, by omega, by assumption⟩]; rfl)
        · refine z_iload_n 2 dX8_plusOf_43 rfl rfl ?_
          refine z_iload 4 dX8_plusOf_44 rfl ?_
          refine z_cs (t8_has l hg d (m := k) (s := s) (by omega)) mk_X8_has ms_X8_has ml_RX8_133 (by omega) rfl rfl (Nat.le_of_ble_eq_true rfl) dX8_plusOf_46 (zpure ?_)
          refine z_if_eq_b 72 dX8_plusOf_49 (by decide) (fun h_49 => ?_) (fun h_49 => ?_)
          · refine z_iinc 4 (L' := [(0, _), (1, _), (2, _), (3, _), (4, _)]) dX8_plusOf_72 (by decide) rfl rfl rfl ?_
            refine z_goto 10 dX8_plusOf_75 (by decide) ?_
            refine z_LL _ ?_ (ih (k + 1) (by omega) (by omega))
            rw [plusN]
            first | (rw [if_neg (fun hc => by obtain ⟨c1, c2, c3⟩ := hc; first | omega | simp_all)]; rfl) | (rw [if_pos ⟨by omega, by omega, by assumption⟩]; rfl)
          · refine z_iload_n 3 dX8_plusOf_52 rfl rfl ?_
            refine z_aload_n 0 dX8_plusOf_53 rfl rfl ?_
            refine z_getr fl_RX8_25 (by decide) rfl rfl dX8_plusOf_54 ?_
            refine z_iload 4 dX8_plusOf_57 rfl ?_
            refine z_iald _ (by decide) rfl rfl (by omega) (by decide) dX8_plusOf_59 ?_
            rw [e4]
            refine z_iconst dX8_plusOf_60 ?_
            refine z_ixor _ (zxorm _) dX8_plusOf_61 ?_
            refine z_iand _ zandm dX8_plusOf_62 ?_
            refine z_aload_n 0 dX8_plusOf_63 rfl rfl ?_
            refine z_getr fl_RX8_22 (by decide) rfl rfl dX8_plusOf_64 ?_
            refine z_iload 4 dX8_plusOf_67 rfl ?_
            refine z_iald _ (by decide) rfl rfl (by omega) (by decide) dX8_plusOf_69 ?_
            rw [e3]
            refine z_ior _ (zor _ _) dX8_plusOf_70 ?_
            refine z_istore_n (L' := [(0, _), (1, _), (2, _), (3, _), (4, _)]) dX8_plusOf_71 rfl (by decide) rfl rfl ?_
            refine z_iinc 4 (L' := [(0, _), (1, _), (2, _), (3, _), (4, _)]) dX8_plusOf_72 (by decide) rfl rfl rfl ?_
            refine z_goto 10 dX8_plusOf_75 (by decide) ?_
            refine z_LL _ ?_ (ih (k + 1) (by omega) (by omega))
            rw [plusN]
            first | (rw [if_neg (fun hc => by obtain ⟨c1, c2, c3⟩ := hc; first | omega | simp_all)]; rfl) | (rw [if_pos ⟨by omega, by omega, by assumption⟩]; rfl)
theorem t8_plusOf (l : Launch) {g : zG} (hg : zAmOk g) {d : zD} {h : Hl} (w : Wf h) (H : HM d h) {m s : Nat} (hm : m < hN h) : zC l g mX8_plusOf 2 [zr g 37, zi (m : Int), zi (s : Int)] d (zpu (zi (plusF h m s : Nat)) d) := by
  have w3 := w.2.2.1
  have e := (H.m hm).2.2.1
  refine zC_of (L := [(0, _), (1, _), (2, _)]) mk_X8_plusOf (Nat.le_of_ble_eq_true rfl) hg rfl (fun x => ?_)
  refine z_aload_n 0 dX8_plusOf_0 rfl rfl ?_
  refine z_getr fl_RX8_22 (by decide) rfl rfl dX8_plusOf_1 ?_
  refine z_iload_n 1 dX8_plusOf_4 rfl rfl ?_
  refine z_iald _ (by decide) rfl rfl (by omega) (by decide) dX8_plusOf_5 ?_
  rw [e]
  refine z_istore_n (L' := [(0, _), (1, _), (2, _), (3, _)]) dX8_plusOf_6 rfl (by decide) rfl rfl ?_
  refine z_iconst dX8_plusOf_7 ?_
  refine z_istore (L' := [(0, _), (1, _), (2, _), (3, _), (4, _)]) dX8_plusOf_8 (by decide) rfl rfl ?_
  exact lp8_plusOf hg w H hm (by decide) ⟨rfl, rfl⟩ (hN h + 1) 0 (by omega) (by omega)
theorem lp8_formOf {l : Launch} {x : zX} {g : zG} {n : Nat} {Q : Option Value → zD → Prop} {d : zD} {h : Hl} {s : Nat} (hg : zAmOk g) (w : Wf h) (H : HM d h) (hn : 2 < n) (hQ : Q (some (zi (formF h s : Nat))) d) : ∀ r k, k ≤ hN h → hN h - k < r → zV l x g mX8_formOf n Q 57 [(0, zr g 37), (1, zi (s : Int)), (2, zi (zb (subOn h s))), (3, zi (formN h s k : Nat)), (4, zi (k : Int))] [] d := by
  have w3 := w.2.2.1
  have h1 : d 38 1 = hN h := H.1.2.1
  intro r
  induction r with
  | zero => intro k hk hr; omega
  | succ r ih =>
    intro k hk hr
    refine z_iload 4 dX8_formOf_57 rfl ?_
    refine z_aload_n 0 dX8_formOf_59 rfl rfl ?_
    refine z_getr fl_RX8_7 (by decide) rfl rfl dX8_formOf_60 ?_
    refine z_iconst dX8_formOf_63 ?_
    refine z_iald 1 (by decide) rfl rfl (by decide) (by decide) dX8_formOf_64 ?_
    rw [h1]
    refine z_icmp_ge 122 (by omega) (by omega) dX8_formOf_65 (by decide) (fun h_65 => ?_) (fun h_65 => ?_)
    · have hkN : k = hN h := by omega
      rw [hkN]
      refine z_iload_n 3 dX8_formOf_122 rfl rfl ?_
      exact z_iret rfl dX8_formOf_123 (hQ)
    · obtain ⟨e1, e2, e3, e4⟩ := H.m (show k < hN h by omega)
      have w1 := (w.2.2.2.2.2.2.1 k (by omega)).1
      refine z_iload_n 1 dX8_formOf_68 rfl rfl ?_
      refine z_iload 4 dX8_formOf_69 rfl ?_
      refine z_cs (t8_has l hg d (m := k) (s := s) (by omega)) mk_X8_has ms_X8_has ml_RX8_133 (by omega) rfl rfl (Nat.le_of_ble_eq_true rfl) dX8_formOf_71 (zpure ?_)
      refine z_if_eq_b 116 dX8_formOf_74 (by decide) (fun h_74 => ?_) (fun h_74 => ?_)
      · refine z_iinc 4 (L' := [(0, _), (1, _), (2, _), (3, _), (4, _)]) dX8_formOf_116 (by decide) rfl rfl rfl ?_
        refine z_goto 57 dX8_formOf_119 (by decide) ?_
        refine z_LL _ ?_ (ih (k + 1) (by omega) (by omega))
        rw [formN, if_neg (fun hc => by rw [h_74] at hc; cases hc.2)]; rfl
      · refine z_aload_n 0 dX8_formOf_77 rfl rfl ?_
        refine z_getr fl_RX8_16 (by decide) rfl rfl dX8_formOf_78 ?_
        refine z_iload 4 dX8_formOf_81 rfl ?_
        refine z_iald _ (by decide) rfl rfl (by omega) (by decide) dX8_formOf_83 ?_
        refine z_iload_n 2 dX8_formOf_84 rfl rfl ?_
        refine z_if_eq_b 92 dX8_formOf_85 (by decide) (fun h_85 => ?_) (fun h_85 => ?_)
        · have hf : fsort h s = 0 := by rw [fsort, if_neg (by rw [h_85]; decide)]
          refine z_iconst dX8_formOf_92 ?_
          rw [e1]
          refine z_icmp_ne 116 (by omega) (by omega) dX8_formOf_93 (by decide) (fun h_93 => ?_) (fun h_93 => ?_)
          · refine z_iinc 4 (L' := [(0, _), (1, _), (2, _), (3, _), (4, _)]) dX8_formOf_116 (by decide) rfl rfl rfl ?_
            refine z_goto 57 dX8_formOf_119 (by decide) ?_
            refine z_LL _ ?_ (ih (k + 1) (by omega) (by omega))
            rw [formN, if_neg (fun hc => by omega)]; rfl
          · refine z_iload_n 3 dX8_formOf_96 rfl rfl ?_
            refine z_aload_n 0 dX8_formOf_97 rfl rfl ?_
            refine z_getr fl_RX8_25 (by decide) rfl rfl dX8_formOf_98 ?_
            refine z_iload 4 dX8_formOf_101 rfl ?_
            refine z_iald _ (by decide) rfl rfl (by omega) (by decide) dX8_formOf_103 ?_
            rw [e4]
            refine z_iconst dX8_formOf_104 ?_
            refine z_ixor _ (zxorm _) dX8_formOf_105 ?_
            refine z_iand _ zandm dX8_formOf_106 ?_
            refine z_aload_n 0 dX8_formOf_107 rfl rfl ?_
            refine z_iload 4 dX8_formOf_108 rfl ?_
            refine z_iload_n 1 dX8_formOf_110 rfl rfl ?_
            refine z_cv (t8_plusOf l hg w H (m := k) (s := s) (by omega)) mk_X8_plusOf mi_X8_plusOf ml_RX8_239 (by omega) (by decide) rfl rfl rfl rfl (Nat.le_of_ble_eq_true rfl) dX8_formOf_111 (zpure ?_)
            refine z_ior _ (zor _ _) dX8_formOf_114 ?_
            refine z_istore_n (L' := [(0, _), (1, _), (2, _), (3, _), (4, _)]) dX8_formOf_115 rfl (by decide) rfl rfl ?_
            refine z_iinc 4 (L' := [(0, _), (1, _), (2, _), (3, _), (4, _)]) dX8_formOf_116 (by decide) rfl rfl rfl ?_
            refine z_goto 57 dX8_formOf_119 (by decide) ?_
            refine z_LL _ ?_ (ih (k + 1) (by omega) (by omega))
            rw [formN, if_pos ⟨by omega, by assumption⟩]; rfl
        · have hf : fsort h s = 2 := by rw [fsort, if_pos h_85]
          refine z_iconst dX8_formOf_88 ?_
          refine z_goto 93 dX8_formOf_89 (by decide) ?_
          rw [e1]
          refine z_icmp_ne 116 (by omega) (by omega) dX8_formOf_93 (by decide) (fun h_93 => ?_) (fun h_93 => ?_)
          · refine z_iinc 4 (L' := [(0, _), (1, _), (2, _), (3, _), (4, _)]) dX8_formOf_116 (by decide) rfl rfl rfl ?_
            refine z_goto 57 dX8_formOf_119 (by decide) ?_
            refine z_LL _ ?_ (ih (k + 1) (by omega) (by omega))
            rw [formN, if_neg (fun hc => by omega)]; rfl
          · refine z_iload_n 3 dX8_formOf_96 rfl rfl ?_
            refine z_aload_n 0 dX8_formOf_97 rfl rfl ?_
            refine z_getr fl_RX8_25 (by decide) rfl rfl dX8_formOf_98 ?_
            refine z_iload 4 dX8_formOf_101 rfl ?_
            refine z_iald _ (by decide) rfl rfl (by omega) (by decide) dX8_formOf_103 ?_
            rw [e4]
            refine z_iconst dX8_formOf_104 ?_
            refine z_ixor _ (zxorm _) dX8_formOf_105 ?_
            refine z_iand _ zandm dX8_formOf_106 ?_
            refine z_aload_n 0 dX8_formOf_107 rfl rfl ?_
            refine z_iload 4 dX8_formOf_108 rfl ?_
            refine z_iload_n 1 dX8_formOf_110 rfl rfl ?_
            refine z_cv (t8_plusOf l hg w H (m := k) (s := s) (by omega)) mk_X8_plusOf mi_X8_plusOf ml_RX8_239 (by omega) (by decide) rfl rfl rfl rfl (Nat.le_of_ble_eq_true rfl) dX8_formOf_111 (zpure ?_)
            refine z_ior _ (zor _ _) dX8_formOf_114 ?_
            refine z_istore_n (L' := [(0, _), (1, _), (2, _), (3, _), (4, _)]) dX8_formOf_115 rfl (by decide) rfl rfl ?_
            refine z_iinc 4 (L' := [(0, _), (1, _), (2, _), (3, _), (4, _)]) dX8_formOf_116 (by decide) rfl rfl rfl ?_
            refine z_goto 57 dX8_formOf_119 (by decide) ?_
            refine z_LL _ ?_ (ih (k + 1) (by omega) (by omega))
            rw [formN, if_pos ⟨by omega, by assumption⟩]; rfl
theorem t8_formOf (l : Launch) {g : zG} (hg : zAmOk g) {d : zD} {h : Hl} (w : Wf h) (H : HM d h) {s : Nat} : zC l g mX8_formOf 3 [zr g 37, zi (s : Int)] d (zpu (zi (formF h s : Nat)) d) := by
  have w3 := w.2.2.1
  have w4 := w.2.2.2.2.2.1
  obtain ⟨⟨h0, h1, h2, h3, h4, h5⟩, -⟩ := id H
  have key : ∀ (x : zX) (b : Bool), b = subOn h s → zV l x g mX8_formOf 3 (zpu (zi (formF h s : Nat)) d) 28 [(0, zr g 37), (1, zi (s : Int))] [zi (zb b)] d := by
    intro x b hb
    subst hb
    refine z_istore_n (L' := [(0, _), (1, _), (2, _)]) dX8_formOf_28 rfl (by decide) rfl rfl ?_
    refine z_iload_n 2 dX8_formOf_29 rfl rfl ?_
    refine z_if_eq_b 47 dX8_formOf_30 (by decide) (fun h_30 => ?_) (fun h_30 => ?_)
    · have f0 : formN h s 0 = hB h := by rw [formN, if_neg (by rw [h_30]; decide)]
      refine z_aload_n 0 dX8_formOf_47 rfl rfl ?_
      refine z_getr fl_RX8_7 (by decide) rfl rfl dX8_formOf_48 ?_
      refine z_iconst dX8_formOf_51 ?_
      refine z_iald 0 (by decide) rfl rfl (by decide) (by decide) dX8_formOf_52 ?_
      rw [h0, ← f0]
      refine z_istore_n (L' := [(0, _), (1, _), (2, _), (3, _)]) dX8_formOf_53 rfl (by decide) rfl rfl ?_
      refine z_iconst dX8_formOf_54 ?_
      refine z_istore (L' := [(0, _), (1, _), (2, _), (3, _), (4, _)]) dX8_formOf_55 (by decide) rfl rfl ?_
      exact lp8_formOf hg w H (by omega) ⟨rfl, rfl⟩ (hN h + 1) 0 (by omega) (by omega)
    · have f0 : formN h s 0 = hpl h (hS h).toNat := by rw [formN, if_pos h_30]
      have hS0 : 0 ≤ hS h := by have hon := h_30; simp only [subOn, Bool.and_eq_true, decide_eq_true_eq] at hon; exact hon.1
      have e := (H.m (show (hS h).toNat < hN h by omega)).2.2.1
      refine z_aload_n 0 dX8_formOf_33 rfl rfl ?_
      refine z_getr fl_RX8_22 (by decide) rfl rfl dX8_formOf_34 ?_
      refine z_aload_n 0 dX8_formOf_37 rfl rfl ?_
      refine z_getr fl_RX8_7 (by decide) rfl rfl dX8_formOf_38 ?_
      refine z_iconst dX8_formOf_41 ?_
      refine z_iald 2 (by decide) rfl rfl (by decide) (by decide) dX8_formOf_42 ?_
      rw [h2]
      refine z_iald (hS h).toNat (by decide) rfl (by omega) (by omega) (by decide) dX8_formOf_43 ?_
      refine z_goto 53 dX8_formOf_44 (by decide) ?_
      rw [e, ← f0]
      refine z_istore_n (L' := [(0, _), (1, _), (2, _), (3, _)]) dX8_formOf_53 rfl (by decide) rfl rfl ?_
      refine z_iconst dX8_formOf_54 ?_
      refine z_istore (L' := [(0, _), (1, _), (2, _), (3, _), (4, _)]) dX8_formOf_55 (by decide) rfl rfl ?_
      exact lp8_formOf hg w H (by omega) ⟨rfl, rfl⟩ (hN h + 1) 0 (by omega) (by omega)
  refine zC_of (L := [(0, _), (1, _)]) mk_X8_formOf (Nat.le_of_ble_eq_true rfl) hg rfl (fun x => ?_)
  refine z_aload_n 0 dX8_formOf_0 rfl rfl ?_
  refine z_getr fl_RX8_7 (by decide) rfl rfl dX8_formOf_1 ?_
  refine z_iconst dX8_formOf_4 ?_
  refine z_iald 2 (by decide) rfl rfl (by decide) (by decide) dX8_formOf_5 ?_
  refine z_iconst dX8_formOf_6 ?_
  rw [h2]
  refine z_icmp_eq 27 (by omega) (by omega) dX8_formOf_7 (by decide) (fun h_7 => ?_) (fun h_7 => ?_)
  · refine z_iconst dX8_formOf_27 ?_
    exact key x false (by rw [subOn, decide_eq_false (by omega)]; rfl)
  · refine z_iload_n 1 dX8_formOf_10 rfl rfl ?_
    refine z_aload_n 0 dX8_formOf_11 rfl rfl ?_
    refine z_getr fl_RX8_7 (by decide) rfl rfl dX8_formOf_12 ?_
    refine z_iconst dX8_formOf_15 ?_
    refine z_iald 2 (by decide) rfl rfl (by decide) (by decide) dX8_formOf_16 ?_
    rw [h2, show hS h = (((hS h).toNat : Nat) : Int) by omega]
    refine z_cs (t8_has l hg d (m := (hS h).toNat) (s := s) (by omega)) mk_X8_has ms_X8_has ml_RX8_133 (by omega) rfl rfl (Nat.le_of_ble_eq_true rfl) dX8_formOf_17 (zpure ?_)
    refine z_if_eq_b 27 dX8_formOf_20 (by decide) (fun h_20 => ?_) (fun h_20 => ?_)
    · refine z_iconst dX8_formOf_27 ?_
      exact key x false (by rw [subOn, decide_eq_true (by omega), h_20]; rfl)
    · refine z_iconst dX8_formOf_23 ?_
      refine z_goto 28 dX8_formOf_24 (by decide) ?_
      exact key x true (by rw [subOn, decide_eq_true (by omega), h_20]; rfl)
theorem lp8_likes2 {l : Launch} {x : zX} {g : zG} {n : Nat} {Q : Option Value → zD → Prop} {d : zD} {h : Hl} {v f : Nat} (hg : zAmOk g) (w : Wf h) (H : HM d h) (hv : v < hV h) (hf : f < 256) (hQ : Q (some (zi (likeF h v f))) d) : ∀ r k, k ≤ hJ h → hJ h - k < r → zV l x g mX8_likesOf n Q 49 [(0, zr g 37), (1, zi (v : Int)), (2, zi (f : Int)), (3, zi (wsumN h v f 8 + jsumN h v f k)), (4, zi (k : Int))] [] d := by
  have w3 := w.2.2.2.1
  have w4 := w.2.2.2.2.1
  have h4 : d 38 4 = hJ h := H.1.2.2.2.2.1
  intro r
  induction r with
  | zero => intro k hk hr; omega
  | succ r ih =>
    intro k hk hr
    refine z_iload 4 dX8_likesOf_49 rfl ?_
    refine z_aload_n 0 dX8_likesOf_51 rfl rfl ?_
    refine z_getr fl_RX8_7 (by decide) rfl rfl dX8_likesOf_52 ?_
    refine z_iconst dX8_likesOf_55 ?_
    refine z_iald 4 (by decide) rfl rfl (by decide) (by decide) dX8_likesOf_56 ?_
    rw [h4]
    refine z_icmp_ge 110 (by omega) (by omega) dX8_likesOf_57 (by decide) (fun h_57 => ?_) (fun h_57 => ?_)
    · rw [show wsumN h v f 8 + jsumN h v f k = likeF h v f by rw [likeF, show k = hJ h by omega]]
      refine z_iload_n 3 dX8_likesOf_110 rfl rfl ?_
      exact z_iret rfl dX8_likesOf_111 (hQ)
    · obtain ⟨e1, e2, e3⟩ : d 50 k = hjv h k ∧ d 51 k = hjs h k ∧ d 52 k = hjw h k := H.2.2.2 k (by omega)
      obtain ⟨j1, j2, j3⟩ := w.2.2.2.2.2.2.2.2 k (by omega)
      have hle : hjs h k &&& f ≤ hjs h k := Nat.and_le_left
      refine z_iload_n 3 dX8_likesOf_60 rfl rfl ?_
      refine z_aload_n 0 dX8_likesOf_61 rfl rfl ?_
      refine z_getr fl_RX8_46 (by decide) rfl rfl dX8_likesOf_62 ?_
      refine z_iload 4 dX8_likesOf_65 rfl ?_
      refine z_iald _ (by decide) rfl rfl (by omega) (by decide) dX8_likesOf_67 ?_
      refine z_iload_n 1 dX8_likesOf_68 rfl rfl ?_
      rw [e1]
      refine z_icmp_ne 101 (by omega) (by omega) dX8_likesOf_69 (by decide) (fun h_69 => ?_) (fun h_69 => ?_)
      · refine z_iconst dX8_likesOf_101 ?_
        refine z_iadd dX8_likesOf_102 ?_
        refine z_istore_n (L' := [(0, _), (1, _), (2, _), (3, _), (4, _)]) dX8_likesOf_103 rfl (by decide) rfl rfl ?_
        refine z_iinc 4 (L' := [(0, _), (1, _), (2, _), (3, _), (4, _)]) dX8_likesOf_104 (by decide) rfl rfl rfl ?_
        refine z_goto 49 dX8_likesOf_107 (by decide) ?_
        refine z_LL _ ?_ (ih (k + 1) (by omega) (by omega))
        rw [jsumN, if_neg (fun c => h_69 (by omega)), ← Int.add_assoc]; rfl
      · refine z_aload_n 0 dX8_likesOf_72 rfl rfl ?_
        refine z_getr fl_RX8_49 (by decide) rfl rfl dX8_likesOf_73 ?_
        refine z_iload 4 dX8_likesOf_76 rfl ?_
        refine z_iald _ (by decide) rfl rfl (by omega) (by decide) dX8_likesOf_78 ?_
        refine z_iload_n 2 dX8_likesOf_79 rfl rfl ?_
        rw [e2]
        refine z_iand _ (zand _ _) dX8_likesOf_80 ?_
        refine z_aload_n 0 dX8_likesOf_81 rfl rfl ?_
        refine z_getr fl_RX8_49 (by decide) rfl rfl dX8_likesOf_82 ?_
        refine z_iload 4 dX8_likesOf_85 rfl ?_
        refine z_iald _ (by decide) rfl rfl (by omega) (by decide) dX8_likesOf_87 ?_
        rw [e2]
        refine z_icmp_ne 101 (by omega) (by omega) dX8_likesOf_88 (by decide) (fun h_88 => ?_) (fun h_88 => ?_)
        · refine z_iconst dX8_likesOf_101 ?_
          refine z_iadd dX8_likesOf_102 ?_
          refine z_istore_n (L' := [(0, _), (1, _), (2, _), (3, _), (4, _)]) dX8_likesOf_103 rfl (by decide) rfl rfl ?_
          refine z_iinc 4 (L' := [(0, _), (1, _), (2, _), (3, _), (4, _)]) dX8_likesOf_104 (by decide) rfl rfl rfl ?_
          refine z_goto 49 dX8_likesOf_107 (by decide) ?_
          refine z_LL _ ?_ (ih (k + 1) (by omega) (by omega))
          rw [jsumN, if_neg (fun c => h_88 (by rw [Nat.and_comm, c.2])), ← Int.add_assoc]; rfl
        · refine z_aload_n 0 dX8_likesOf_91 rfl rfl ?_
          refine z_getr fl_RX8_52 (by decide) rfl rfl dX8_likesOf_92 ?_
          refine z_iload 4 dX8_likesOf_95 rfl ?_
          refine z_iald _ (by decide) rfl rfl (by omega) (by decide) dX8_likesOf_97 ?_
          skip
          refine z_goto 102 dX8_likesOf_98 (by decide) ?_
          rw [e3]
          refine z_iadd dX8_likesOf_102 ?_
          refine z_istore_n (L' := [(0, _), (1, _), (2, _), (3, _), (4, _)]) dX8_likesOf_103 rfl (by decide) rfl rfl ?_
          refine z_iinc 4 (L' := [(0, _), (1, _), (2, _), (3, _), (4, _)]) dX8_likesOf_104 (by decide) rfl rfl rfl ?_
          refine z_goto 49 dX8_likesOf_107 (by decide) ?_
          refine z_LL _ ?_ (ih (k + 1) (by omega) (by omega))
          rw [jsumN, if_pos ⟨by omega, by rw [Nat.and_comm]; omega⟩, ← Int.add_assoc]; rfl
theorem lp8_likes1 {l : Launch} {x : zX} {g : zG} {n : Nat} {Q : Option Value → zD → Prop} {d : zD} {h : Hl} {v f : Nat} (hg : zAmOk g) (w : Wf h) (H : HM d h) (hv : v < hV h) (hf : f < 256) (hn : 1 < n) (hQ : Q (some (zi (likeF h v f))) d) : ∀ r k, k ≤ 8 → 8 - k < r → zV l x g mX8_likesOf n Q 5 [(0, zr g 37), (1, zi (v : Int)), (2, zi (f : Int)), (3, zi (wsumN h v f k)), (4, zi (k : Int))] [] d := by
  have w3 := w.2.2.2.1
  intro r
  induction r with
  | zero => intro k hk hr; omega
  | succ r ih =>
    intro k hk hr
    refine z_iload 4 dX8_likesOf_5 rfl ?_
    refine z_bipush dX8_likesOf_7 (by decide) ?_
    refine z_icmp_ge 46 (by omega) (by omega) dX8_likesOf_9 (by decide) (fun h_9 => ?_) (fun h_9 => ?_)
    · refine z_iconst dX8_likesOf_46 ?_
      refine z_istore (L' := [(0, _), (1, _), (2, _), (3, _), (4, _)]) dX8_likesOf_47 (by decide) rfl rfl ?_
      refine z_LL _ ?_ (lp8_likes2 hg w H hv hf hQ (hJ h + 1) 0 (by omega) (by omega))
      rw [jsumN, show k = 8 by omega, Int.add_zero]; rfl
    · refine z_iload_n 3 dX8_likesOf_12 rfl rfl ?_
      refine z_iload_n 2 dX8_likesOf_13 rfl rfl ?_
      refine z_iload 4 dX8_likesOf_14 rfl ?_
      refine z_cs (t8_has l hg d (m := k) (s := f) (by omega)) mk_X8_has ms_X8_has ml_RX8_133 (by omega) rfl rfl (Nat.le_of_ble_eq_true rfl) dX8_likesOf_16 (zpure ?_)
      refine z_if_eq_b 37 dX8_likesOf_19 (by decide) (fun h_19 => ?_) (fun h_19 => ?_)
      · refine z_iconst dX8_likesOf_37 ?_
        refine z_iadd dX8_likesOf_38 ?_
        refine z_istore_n (L' := [(0, _), (1, _), (2, _), (3, _), (4, _)]) dX8_likesOf_39 rfl (by decide) rfl rfl ?_
        refine z_iinc 4 (L' := [(0, _), (1, _), (2, _), (3, _), (4, _)]) dX8_likesOf_40 (by decide) rfl rfl rfl ?_
        refine z_goto 5 dX8_likesOf_43 (by decide) ?_
        refine z_LL _ ?_ (ih (k + 1) (by omega) (by omega))
        rw [wsumN, if_neg (by rw [h_19]; decide)]; rfl
      · refine z_aload_n 0 dX8_likesOf_22 rfl rfl ?_
        refine z_getr fl_RX8_40 (by decide) rfl rfl dX8_likesOf_23 ?_
        refine z_bipush dX8_likesOf_26 (by decide) ?_
        refine z_iload_n 1 dX8_likesOf_28 rfl rfl ?_
        refine z_imul dX8_likesOf_29 ?_
        refine z_iload 4 dX8_likesOf_30 rfl ?_
        refine z_iadd dX8_likesOf_32 ?_
        refine z_iald (8 * v + k) (by decide) rfl (by omega) (by omega) (by decide) dX8_likesOf_33 ?_
        refine z_goto 38 dX8_likesOf_34 (by decide) ?_
        rw [H.2.2.1 (8 * v + k) (by omega)]
        refine z_iadd dX8_likesOf_38 ?_
        refine z_istore_n (L' := [(0, _), (1, _), (2, _), (3, _), (4, _)]) dX8_likesOf_39 rfl (by decide) rfl rfl ?_
        refine z_iinc 4 (L' := [(0, _), (1, _), (2, _), (3, _), (4, _)]) dX8_likesOf_40 (by decide) rfl rfl rfl ?_
        refine z_goto 5 dX8_likesOf_43 (by decide) ?_
        refine z_LL _ ?_ (ih (k + 1) (by omega) (by omega))
        rw [wsumN, if_pos h_19]; rfl
theorem t8_likesOf (l : Launch) {g : zG} (hg : zAmOk g) {d : zD} {h : Hl} (w : Wf h) (H : HM d h) {v f : Nat} (hv : v < hV h) (hf : f < 256) : zC l g mX8_likesOf 2 [zr g 37, zi (v : Int), zi (f : Int)] d (zpu (zi (likeF h v f)) d) := by
  refine zC_of (L := [(0, _), (1, _), (2, _)]) mk_X8_likesOf (Nat.le_of_ble_eq_true rfl) hg rfl (fun x => ?_)
  refine z_iconst dX8_likesOf_0 ?_
  refine z_istore_n (L' := [(0, _), (1, _), (2, _), (3, _)]) dX8_likesOf_1 rfl (by decide) rfl rfl ?_
  refine z_iconst dX8_likesOf_2 ?_
  refine z_istore (L' := [(0, _), (1, _), (2, _), (3, _), (4, _)]) dX8_likesOf_3 (by decide) rfl rfl ?_
  exact lp8_likes1 hg w H hv hf (by omega) ⟨rfl, rfl⟩ 9 0 (by omega) (by omega)
def LKM (d : zD) (h : Hl) : Prop := ∀ v f, v < hV h → f < 256 → d 59 (256 * v + f) = likeF h v f
theorem LKM.of {d d' : zD} {h : Hl} (H : LKM d h) (e : d' 59 = d 59) : LKM d' h := fun v f hv hf => by rw [e]; exact H v f hv hf
theorem t8_laysLikes (l : Launch) {g : zG} (hg : zAmOk g) {d : zD} {h : Hl} (w : Wf h) (H : HM d h) : zC l g mX8_laysLikes 3 [zr g 37] d (fun r d' => r = none ∧ (zF [59] d d' ∧ LKM d' h)) := by
  have w3 := w.2.2.2.1
  have key2 : ∀ (x : zX) (v : Nat) (Q : Option Value → zD → Prop), v < hV h → (∀ d1, zF [59] d d1 → (∀ u f, u < v + 1 → f < 256 → d1 59 (256 * u + f) = likeF h u f) → zV l x g mX8_laysLikes 3 Q 2 [(0, zr g 37), (1, zi ((v : Int) + 1))] [] d1) → ∀ (r k : Nat) (d1 : zD), zF [59] d d1 → (∀ u f, u < v → f < 256 → d1 59 (256 * u + f) = likeF h u f) → (∀ f, f < k → d1 59 (256 * v + f) = likeF h v f) → k ≤ 256 → 256 - k < r → zV l x g mX8_laysLikes 3 Q 14 [(0, zr g 37), (1, zi (v : Int)), (2, zi (k : Int))] [] d1 := by
    intro x v Q hv kk r
    induction r with
    | zero => intro k d1 h1 h2 h3 h4 hr; omega
    | succ r ih =>
      intro k d1 F e1 e2 hk hr
      have H1 : HM d1 h := HM.of H F (by decide)
      refine z_iload_n 2 dX8_laysLikes_14 rfl rfl ?_
      refine z_sipush dX8_laysLikes_15 (by decide) ?_
      refine z_icmp_ge 45 (by omega) (by omega) dX8_laysLikes_18 (by decide) (fun h_18 => ?_) (fun h_18 => ?_)
      · refine z_iinc 1 (L' := [(0, _), (1, _), (2, _)]) dX8_laysLikes_45 (by decide) rfl rfl rfl ?_
        refine z_goto 2 dX8_laysLikes_48 (by decide) ?_
        refine z_sub (L' := [(0, _), (1, _)]) [0, 1] rfl ?_
        refine kk d1 F (fun u f hu hf => ?_)
        by_cases e : u = v
        · subst e; exact e2 f (by omega)
        · exact e1 u f (by omega) hf
      · refine z_aload_n 0 dX8_laysLikes_21 rfl rfl ?_
        refine z_getr fl_RX8_73 (by decide) rfl rfl dX8_laysLikes_22 ?_
        refine z_sipush dX8_laysLikes_25 (by decide) ?_
        refine z_iload_n 1 dX8_laysLikes_28 rfl rfl ?_
        refine z_imul dX8_laysLikes_29 ?_
        refine z_iload_n 2 dX8_laysLikes_30 rfl rfl ?_
        refine z_iadd dX8_laysLikes_31 ?_
        refine z_aload_n 0 dX8_laysLikes_32 rfl rfl ?_
        refine z_iload_n 1 dX8_laysLikes_33 rfl rfl ?_
        refine z_iload_n 2 dX8_laysLikes_34 rfl rfl ?_
        refine z_cv (t8_likesOf l hg w H1 (v := v) (f := k) hv (by omega)) mk_X8_likesOf mi_X8_likesOf ml_RX8_247 (by omega) (by decide) rfl rfl rfl rfl (Nat.le_of_ble_eq_true rfl) dX8_laysLikes_35 (zpure ?_)
        refine z_iast (256 * v + k) (by decide) rfl (by omega) (by omega) (by decide) dX8_laysLikes_38 ?_
        refine z_iinc 2 (L' := [(0, _), (1, _), (2, _)]) dX8_laysLikes_39 (by decide) rfl rfl rfl ?_
        refine z_goto 14 dX8_laysLikes_42 (by decide) ?_
        refine ih (k + 1) _ (F.up (by decide)) (fun u f hu hf => by rw [zu_row, if_neg (by omega)]; exact e1 u f hu hf) (fun f hf => ?_) (by omega) (by omega)
        rw [zu_row]
        split
        · rename_i e; rw [show f = k by omega]
        · exact e2 f (by omega)
  have key1 : ∀ (x : zX) (r k : Nat) (d1 : zD), zF [59] d d1 → (∀ u f, u < k → f < 256 → d1 59 (256 * u + f) = likeF h u f) → k ≤ hV h → hV h - k < r → zV l x g mX8_laysLikes 3 (fun r d' => r = none ∧ (zF [59] d d' ∧ LKM d' h)) 2 [(0, zr g 37), (1, zi (k : Int))] [] d1 := by
    intro x r
    induction r with
    | zero => intro k d1 h1 h2 h3 hr; omega
    | succ r ih =>
      intro k d1 F e1 hk hr
      have H1 : HM d1 h := HM.of H F (by decide)
      have h3 : d1 38 3 = hV h := H1.1.2.2.2.1
      refine z_iload_n 1 dX8_laysLikes_2 rfl rfl ?_
      refine z_aload_n 0 dX8_laysLikes_3 rfl rfl ?_
      refine z_getr fl_RX8_7 (by decide) rfl rfl dX8_laysLikes_4 ?_
      refine z_iconst dX8_laysLikes_7 ?_
      refine z_iald 3 (by decide) rfl rfl (by decide) (by decide) dX8_laysLikes_8 ?_
      rw [h3]
      refine z_icmp_ge 51 (by omega) (by omega) dX8_laysLikes_9 (by decide) (fun h_9 => ?_) (fun h_9 => ?_)
      · exact z_vret rfl dX8_laysLikes_51 (⟨rfl, F, fun v f hv hf => e1 v f (by omega) hf⟩)
      · refine z_iconst dX8_laysLikes_12 ?_
        refine z_istore_n (L' := [(0, _), (1, _), (2, _)]) dX8_laysLikes_13 rfl (by decide) rfl rfl ?_
        refine key2 x k _ (by omega) (fun d2 F2 e2 => ?_) 257 0 d1 F e1 (fun f hf => absurd hf (by omega)) (by omega) (by omega)
        exact ih (k + 1) d2 F2 e2 (by omega) (by omega)
  refine zC_of (L := [(0, _)]) mk_X8_laysLikes (Nat.le_of_ble_eq_true rfl) hg rfl (fun x => ?_)
  refine z_iconst dX8_laysLikes_0 ?_
  refine z_istore_n (L' := [(0, _), (1, _)]) dX8_laysLikes_1 rfl (by decide) rfl rfl ?_
  exact key1 x (hV h + 1) 0 d zF.rf (fun u f hu => absurd hu (by omega)) (by omega) (by omega)
theorem t8_isPreferred (l : Launch) {g : zG} (hg : zAmOk g) {d : zD} {h : Hl} (w : Wf h) (K : LKM d h) {v f o : Nat} (hv : v < hV h) (hf : f < 256) (ho : o < 256) : zC l g mX8_isPreferred 1 [zr g 37, zi (v : Int), zi (f : Int), zi (o : Int)] d (zpu (zi (zb (prefB h v f o))) d) := by
  have w3 := w.2.2.2.1
  have b1 := like_b w f hv
  have b2 := like_b w o hv
  refine zC_of (L := [(0, _), (1, _), (2, _), (3, _)]) mk_X8_isPreferred (Nat.le_of_ble_eq_true rfl) hg rfl (fun x => ?_)
  refine z_aload_n 0 dX8_isPreferred_0 rfl rfl ?_
  refine z_getr fl_RX8_73 (by decide) rfl rfl dX8_isPreferred_1 ?_
  refine z_sipush dX8_isPreferred_4 (by decide) ?_
  refine z_iload_n 1 dX8_isPreferred_7 rfl rfl ?_
  refine z_imul dX8_isPreferred_8 ?_
  refine z_iload_n 2 dX8_isPreferred_9 rfl rfl ?_
  refine z_iadd dX8_isPreferred_10 ?_
  refine z_iald (256 * v + f) (by decide) rfl (by omega) (by omega) (by decide) dX8_isPreferred_11 ?_
  refine z_aload_n 0 dX8_isPreferred_12 rfl rfl ?_
  refine z_getr fl_RX8_73 (by decide) rfl rfl dX8_isPreferred_13 ?_
  refine z_sipush dX8_isPreferred_16 (by decide) ?_
  refine z_iload_n 1 dX8_isPreferred_19 rfl rfl ?_
  refine z_imul dX8_isPreferred_20 ?_
  refine z_iload_n 3 dX8_isPreferred_21 rfl rfl ?_
  refine z_iadd dX8_isPreferred_22 ?_
  refine z_iald (256 * v + o) (by decide) rfl (by omega) (by omega) (by decide) dX8_isPreferred_23 ?_
  rw [K v f hv hf, K v o hv ho]
  refine z_icmp_le 31 (by omega) (by omega) dX8_isPreferred_24 (by decide) (fun h_24 => ?_) (fun h_24 => ?_)
  · refine z_iconst dX8_isPreferred_31 ?_
    exact z_bret (b := false) rfl dX8_isPreferred_32 (zret_b (decide_eq_false (by omega)).symm)
  · refine z_iconst dX8_isPreferred_27 ?_
    refine z_goto 32 dX8_isPreferred_28 (by decide) ?_
    exact z_bret (b := true) rfl dX8_isPreferred_32 (zret_b (decide_eq_true (by omega)).symm)
theorem lp8_preferring {l : Launch} {x : zX} {g : zG} {n : Nat} {Q : Option Value → zD → Prop} {d : zD} {h : Hl} {f o : Nat} (hg : zAmOk g) (w : Wf h) (H : HM d h) (K : LKM d h) (hf : f < 256) (ho : o < 256) (hn : 1 < n) (hQ : Q (some (zi (prefF h f o : Nat))) d) : ∀ r k, k ≤ hV h → hV h - k < r → zV l x g mX8_preferring n Q 5 [(0, zr g 37), (1, zi (f : Int)), (2, zi (o : Int)), (3, zi (prefN h f o k : Nat)), (4, zi (k : Int))] [] d := by
  have w3 := w.2.2.2.1
  have h3 : d 38 3 = hV h := H.1.2.2.2.1
  intro r
  induction r with
  | zero => intro k hk hr; omega
  | succ r ih =>
    intro k hk hr
    refine z_iload 4 dX8_preferring_5 rfl ?_
    refine z_aload_n 0 dX8_preferring_7 rfl rfl ?_
    refine z_getr fl_RX8_7 (by decide) rfl rfl dX8_preferring_8 ?_
    refine z_iconst dX8_preferring_11 ?_
    refine z_iald 3 (by decide) rfl rfl (by decide) (by decide) dX8_preferring_12 ?_
    rw [h3]
    refine z_icmp_ge 41 (by omega) (by omega) dX8_preferring_13 (by decide) (fun h_13 => ?_) (fun h_13 => ?_)
    · have e : prefN h f o k = prefF h f o := by rw [prefF, show k = hV h by omega]
      rw [e]
      refine z_iload_n 3 dX8_preferring_41 rfl rfl ?_
      exact z_iret rfl dX8_preferring_42 (hQ)
    · refine z_iload_n 3 dX8_preferring_16 rfl rfl ?_
      refine z_aload_n 0 dX8_preferring_17 rfl rfl ?_
      refine z_iload 4 dX8_preferring_18 rfl ?_
      refine z_iload_n 1 dX8_preferring_20 rfl rfl ?_
      refine z_iload_n 2 dX8_preferring_21 rfl rfl ?_
      refine z_cv (t8_isPreferred l hg w K (v := k) (f := f) (o := o) (by omega) hf ho) mk_X8_isPreferred mi_X8_isPreferred ml_RX8_250 (by omega) (by decide) rfl rfl rfl rfl (Nat.le_of_ble_eq_true rfl) dX8_preferring_22 (zpure ?_)
      refine z_if_eq_b 32 dX8_preferring_25 (by decide) (fun h_25 => ?_) (fun h_25 => ?_)
      · refine z_iconst dX8_preferring_32 ?_
        refine z_iadd dX8_preferring_33 ?_
        refine z_istore_n (L' := [(0, _), (1, _), (2, _), (3, _), (4, _)]) dX8_preferring_34 rfl (by decide) rfl rfl ?_
        refine z_iinc 4 (L' := [(0, _), (1, _), (2, _), (3, _), (4, _)]) dX8_preferring_35 (by decide) rfl rfl rfl ?_
        refine z_goto 5 dX8_preferring_38 (by decide) ?_
        refine z_LL _ ?_ (ih (k + 1) (by omega) (by omega))
        rw [prefN, if_neg (by rw [h_25]; decide)]; rfl
      · refine z_iconst dX8_preferring_28 ?_
        refine z_goto 33 dX8_preferring_29 (by decide) ?_
        refine z_iadd dX8_preferring_33 ?_
        refine z_istore_n (L' := [(0, _), (1, _), (2, _), (3, _), (4, _)]) dX8_preferring_34 rfl (by decide) rfl rfl ?_
        refine z_iinc 4 (L' := [(0, _), (1, _), (2, _), (3, _), (4, _)]) dX8_preferring_35 (by decide) rfl rfl rfl ?_
        refine z_goto 5 dX8_preferring_38 (by decide) ?_
        refine z_LL _ ?_ (ih (k + 1) (by omega) (by omega))
        rw [prefN, if_pos h_25]; rfl
theorem t8_preferring (l : Launch) {g : zG} (hg : zAmOk g) {d : zD} {h : Hl} (w : Wf h) (H : HM d h) (K : LKM d h) {f o : Nat} (hf : f < 256) (ho : o < 256) : zC l g mX8_preferring 2 [zr g 37, zi (f : Int), zi (o : Int)] d (zpu (zi (prefF h f o : Nat)) d) := by
  refine zC_of (L := [(0, _), (1, _), (2, _)]) mk_X8_preferring (Nat.le_of_ble_eq_true rfl) hg rfl (fun x => ?_)
  refine z_iconst dX8_preferring_0 ?_
  refine z_istore_n (L' := [(0, _), (1, _), (2, _), (3, _)]) dX8_preferring_1 rfl (by decide) rfl rfl ?_
  refine z_iconst dX8_preferring_2 ?_
  refine z_istore (L' := [(0, _), (1, _), (2, _), (3, _), (4, _)]) dX8_preferring_3 (by decide) rfl rfl ?_
  exact lp8_preferring hg w H K hf ho (by omega) ⟨rfl, rfl⟩ (hV h + 1) 0 (by omega) (by omega)
theorem t8_quota (l : Launch) {g : zG} (hg : zAmOk g) {d : zD} {h : Hl} (w : Wf h) (H : HM d h) : zC l g mX8_quota 1 [zr g 37] d (zpu (zi (quotaF h : Nat)) d) := by
  have w2 := w.2.1
  have w4 := w.2.2.2.1
  obtain ⟨⟨h0, h1, h2, h3, h4, h5⟩, -⟩ := id H
  refine zC_of (L := [(0, _)]) mk_X8_quota (Nat.le_of_ble_eq_true rfl) hg rfl (fun x => ?_)
  refine z_aload_n 0 dX8_quota_0 rfl rfl ?_
  refine z_getr fl_RX8_7 (by decide) rfl rfl dX8_quota_1 ?_
  refine z_iconst dX8_quota_4 ?_
  refine z_iald 5 (by decide) rfl rfl (by decide) (by decide) dX8_quota_5 ?_
  rw [h5]
  refine z_if_le 18 (by omega) dX8_quota_6 (by decide) (fun h_6 => ?_) (fun h_6 => ?_)
  · refine z_aload_n 0 dX8_quota_18 rfl rfl ?_
    refine z_getr fl_RX8_7 (by decide) rfl rfl dX8_quota_19 ?_
    refine z_iconst dX8_quota_22 ?_
    refine z_iald 3 (by decide) rfl rfl (by decide) (by decide) dX8_quota_23 ?_
    refine z_iconst dX8_quota_24 ?_
    rw [h3]
    refine z_idiv _ (by decide) (zdiv (a := hV h) (b := 2) (by omega) (by decide) (by decide)) dX8_quota_25 ?_
    refine z_iconst dX8_quota_26 ?_
    refine z_iadd dX8_quota_27 ?_
    exact z_iret rfl dX8_quota_28 (zret_i (by rw [quotaF, if_neg (by omega)]; rfl))
  · refine z_aload_n 0 dX8_quota_9 rfl rfl ?_
    refine z_getr fl_RX8_7 (by decide) rfl rfl dX8_quota_10 ?_
    refine z_iconst dX8_quota_13 ?_
    refine z_iald 5 (by decide) rfl rfl (by decide) (by decide) dX8_quota_14 ?_
    refine z_goto 28 dX8_quota_15 (by decide) ?_
    exact z_iret rfl dX8_quota_28 (zret_i (by rw [h5, quotaF, if_pos (by omega)]))
