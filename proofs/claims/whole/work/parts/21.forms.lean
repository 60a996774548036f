/-! forms: plusOf, formOf, takeForms, goneWith -/
/-- what a told hall gives at the place 2, by name -/
theorem HC.m {d : zD} {h : Hl} (H : HC 2 d h) {k : Nat} (hk : k < hN h) : d 3 k = hso h k ∧ d 4 k = hpa h k ∧ d 5 k = hpl h k ∧ d 6 k = hmi h k := H.2.1 k hk
theorem lp_plusOf {l : Launch} {x : zX} {g : zG} {n : Nat} {Q : Option Value → zD → Prop} {d : zD} {h : Hl} {m s : Nat} (hg : zAmOk g) (w : Wf h) (H : HC 2 d h) (hm : m < hN h) (hs : s < 64) (hn : 1 < n) (hQ : Q (some (zi (plusF h m s : Nat))) d) : ∀ r k, k ≤ hN h → hN h - k < r → zV l x g mX2_plusOf n Q 10 [(0, zr g 2), (1, zi (m : Int)), (2, zi (s : Int)), (3, zi (plusN h m s k : Nat)), (4, zi (k : Int))] [] d := by
  have w3 := w.2.2.1
  have h3 : d 2 3 = hN h := H.1.2.2.2.1
  intro r
  induction r with
  | zero => intro k hk hr; omega
  | succ r ih =>
    intro k hk hr
    refine z_iload 4 dX2_plusOf_10 rfl ?_
    refine z_aload_n 0 dX2_plusOf_12 rfl rfl ?_
    refine z_geti fl_RX2_46 (by decide) rfl rfl dX2_plusOf_13 ?_
    rw [h3]
    refine z_icmp_ge 76 (by omega) (by omega) dX2_plusOf_16 (by decide) (fun h_16 => ?_) (fun h_16 => ?_)
    · have hkN : k = hN h := by omega
      rw [hkN]
      refine z_iload_n 3 dX2_plusOf_76 rfl rfl ?_
      exact z_iret rfl dX2_plusOf_77 (hQ)
    · obtain ⟨e1, e2, e3, e4⟩ := H.m (show k < hN h by omega)
      have w1 := (w.2.2.2.2.2.2.1 k (by omega)).1
      refine z_aload_n 0 dX2_plusOf_19 rfl rfl ?_
      refine z_getr fl_RX2_15 (by decide) rfl rfl dX2_plusOf_20 ?_
      refine z_iload 4 dX2_plusOf_23 rfl ?_
      refine z_iald _ (by decide) rfl rfl (by omega) (by decide) dX2_plusOf_25 ?_
      refine z_iconst dX2_plusOf_26 ?_
      rw [e1]
      refine z_icmp_ne 70 (by omega) (by omega) dX2_plusOf_27 (by decide) (fun h_27 => ?_) (fun h_27 => ?_)
      · refine z_iinc 4 (L' := [(0, _), (1, _), (2, _), (3, _), (4, _)]) dX2_plusOf_70 (by decide) rfl rfl rfl ?_
        refine z_goto 10 dX2_plusOf_73 (by decide) ?_
        refine z_LL _ ?_ (ih (k + 1) (by omega) (by omega))
        rw [plusN]
        first | (rw [if_neg (fun hc => by obtain ⟨c1, c2, c3⟩ := hc; first | omega | simp_all)]; rfl) | (rw [if_pos ⟨by omega, by omega, by assumption⟩]; rfl)
      · refine z_aload_n 0 dX2_plusOf_30 rfl rfl ?_
        refine z_getr fl_RX2_19 (by decide) rfl rfl dX2_plusOf_31 ?_
        refine z_iload 4 dX2_plusOf_34 rfl ?_
        refine z_iald _ (by decide) rfl rfl (by omega) (by decide) dX2_plusOf_36 ?_
        refine z_iload_n 1 dX2_plusOf_37 rfl rfl ?_
        rw [e2]
        refine z_icmp_ne 70 (by have := w.2.2.2.2.2.2.1 k (by omega); omega) (by omega) dX2_plusOf_38 (by decide) (fun h_38 => ?_) (fun h_38 => ?_)
        · refine z_iinc 4 (L' := [(0, _), (1, _), (2, _), (3, _), (4, _)]) dX2_plusOf_70 (by decide) rfl rfl rfl ?_
          refine z_goto 10 dX2_plusOf_73 (by decide) ?_
          refine z_LL _ ?_ (ih (k + 1) (by omega) (by omega))
          rw [plusN]
          first | (rw [if_neg (fun hc => by obtain ⟨c1, c2, c3⟩ := hc; first | omega | simp_all)]; rfl) | (rw [if_pos ⟨by omega, by omega, by assumption⟩]; rfl)
        · refine z_iload 4 dX2_plusOf_41 rfl ?_
          refine z_iload_n 2 dX2_plusOf_43 rfl rfl ?_
          refine z_cs (t_isIn l hg d (m := k) (s := s) (by omega) (by omega)) mk_X7_isIn ms_X7_isIn ml_RX2_67 (by omega) rfl rfl (Nat.le_of_ble_eq_true rfl) dX2_plusOf_44 (zpure ?_)
          refine z_if_eq_b 70 dX2_plusOf_47 (by decide) (fun h_47 => ?_) (fun h_47 => ?_)
          · refine z_iinc 4 (L' := [(0, _), (1, _), (2, _), (3, _), (4, _)]) dX2_plusOf_70 (by decide) rfl rfl rfl ?_
            refine z_goto 10 dX2_plusOf_73 (by decide) ?_
            refine z_LL _ ?_ (ih (k + 1) (by omega) (by omega))
            rw [plusN]
            first | (rw [if_neg (fun hc => by obtain ⟨c1, c2, c3⟩ := hc; first | omega | simp_all)]; rfl) | (rw [if_pos ⟨by omega, by omega, by assumption⟩]; rfl)
          · refine z_iload_n 3 dX2_plusOf_50 rfl rfl ?_
            refine z_aload_n 0 dX2_plusOf_51 rfl rfl ?_
            refine z_getr fl_RX2_25 (by decide) rfl rfl dX2_plusOf_52 ?_
            refine z_iload 4 dX2_plusOf_55 rfl ?_
            skip
            refine z_iald _ (by decide) rfl rfl (by omega) (by decide) dX2_plusOf_57 ?_
            rw [e4]
            refine z_iconst dX2_plusOf_58 ?_
            refine z_ixor _ (zxorm _) dX2_plusOf_59 ?_
            refine z_iand _ zandm dX2_plusOf_60 ?_
            refine z_aload_n 0 dX2_plusOf_61 rfl rfl ?_
            refine z_getr fl_RX2_22 (by decide) rfl rfl dX2_plusOf_62 ?_
            refine z_iload 4 dX2_plusOf_65 rfl ?_
            refine z_iald _ (by decide) rfl rfl (by omega) (by decide) dX2_plusOf_67 ?_
            rw [e3]
            refine z_ior _ (zor _ _) dX2_plusOf_68 ?_
            refine z_istore_n (L' := [(0, _), (1, _), (2, _), (3, _), (4, _)]) dX2_plusOf_69 rfl (by decide) rfl rfl ?_
            refine z_iinc 4 (L' := [(0, _), (1, _), (2, _), (3, _), (4, _)]) dX2_plusOf_70 (by decide) rfl rfl rfl ?_
            refine z_goto 10 dX2_plusOf_73 (by decide) ?_
            refine z_LL _ ?_ (ih (k + 1) (by omega) (by omega))
            rw [plusN]
            first | (rw [if_neg (fun hc => by obtain ⟨c1, c2, c3⟩ := hc; first | omega | simp_all)]; rfl) | (rw [if_pos ⟨by omega, by omega, by assumption⟩]; rfl)
theorem t_plusOf (l : Launch) {g : zG} (hg : zAmOk g) {d : zD} {h : Hl} (w : Wf h) (H : HC 2 d h) {m s : Nat} (hm : m < hN h) (hs : s < 64) : zC l g mX2_plusOf 2 [zr g 2, zi (m : Int), zi (s : Int)] d (zpu (zi (plusF h m s : Nat)) d) := by
  have w3 := w.2.2.1
  have e := (H.m hm).2.2.1
  refine zC_of (L := [(0, _), (1, _), (2, _)]) mk_X2_plusOf (Nat.le_of_ble_eq_true rfl) hg rfl (fun x => ?_)
  refine z_aload_n 0 dX2_plusOf_0 rfl rfl ?_
  refine z_getr fl_RX2_22 (by decide) rfl rfl dX2_plusOf_1 ?_
  refine z_iload_n 1 dX2_plusOf_4 rfl rfl ?_
  refine z_iald _ (by decide) rfl rfl (by omega) (by decide) dX2_plusOf_5 ?_
  rw [e]
  refine z_istore_n (L' := [(0, _), (1, _), (2, _), (3, _)]) dX2_plusOf_6 rfl (by decide) rfl rfl ?_
  refine z_iconst dX2_plusOf_7 ?_
  refine z_istore (L' := [(0, _), (1, _), (2, _), (3, _), (4, _)]) dX2_plusOf_8 (by decide) rfl rfl ?_
  exact lp_plusOf hg w H hm hs (by decide) ⟨rfl, rfl⟩ (hN h + 1) 0 (by omega) (by omega)
theorem lp_formOf {l : Launch} {x : zX} {g : zG} {n : Nat} {Q : Option Value → zD → Prop} {d : zD} {h : Hl} {s : Nat} {b : Int} (hg : zAmOk g) (w : Wf h) (H : HC 2 d h) (hs : s < 64) (hn : 2 < n) (hQ : Q (some (zi (formF h s : Nat))) d) : ∀ r k, k ≤ hN h → hN h - k < r → zV l x g mX2_formOf n Q 70 [(0, zr g 2), (1, zi (s : Int)), (2, zi b), (3, zi (formN h s k : Nat)), (4, zi (fsort h s : Nat)), (5, zi (k : Int))] [] d := by
  have w3 := w.2.2.1
  have h3 : d 2 3 = hN h := H.1.2.2.2.1
  have hf : fsort h s ≤ 2 := by unfold fsort; split <;> omega
  intro r
  induction r with
  | zero => intro k hk hr; omega
  | succ r ih =>
    intro k hk hr
    refine z_iload 5 dX2_formOf_70 rfl ?_
    refine z_aload_n 0 dX2_formOf_72 rfl rfl ?_
    refine z_geti fl_RX2_46 (by decide) rfl rfl dX2_formOf_73 ?_
    rw [h3]
    refine z_icmp_ge 126 (by omega) (by omega) dX2_formOf_76 (by decide) (fun h_76 => ?_) (fun h_76 => ?_)
    · have hkN : k = hN h := by omega
      rw [hkN]
      refine z_iload_n 3 dX2_formOf_126 rfl rfl ?_
      exact z_iret rfl dX2_formOf_127 (hQ)
    · obtain ⟨e1, e2, e3, e4⟩ := H.m (show k < hN h by omega)
      refine z_aload_n 0 dX2_formOf_79 rfl rfl ?_
      refine z_getr fl_RX2_15 (by decide) rfl rfl dX2_formOf_80 ?_
      refine z_iload 5 dX2_formOf_83 rfl ?_
      refine z_iald _ (by decide) rfl rfl (by omega) (by decide) dX2_formOf_85 ?_
      refine z_iload 4 dX2_formOf_86 rfl ?_
      rw [e1]
      have w1 := (w.2.2.2.2.2.2.1 k (by omega)).1
      refine z_icmp_ne 120 (by omega) (by omega) dX2_formOf_88 (by decide) (fun h_88 => ?_) (fun h_88 => ?_)
      · refine z_iinc 5 (L' := [(0, _), (1, _), (2, _), (3, _), (4, _), (5, _)]) dX2_formOf_120 (by decide) rfl rfl rfl ?_
        refine z_goto 70 dX2_formOf_123 (by decide) ?_
        refine z_LL _ ?_ (ih (k + 1) (by omega) (by omega))
        rw [formN]
        first | (rw [if_neg (fun hc => by obtain ⟨c1, c2⟩ := hc; first | omega | simp_all)]; rfl) | (rw [if_pos ⟨by omega, by assumption⟩]; rfl)
      · refine z_iload 5 dX2_formOf_91 rfl ?_
        refine z_iload_n 1 dX2_formOf_93 rfl rfl ?_
        refine z_cs (t_isIn l hg d (m := k) (s := s) (by omega) (by omega)) mk_X7_isIn ms_X7_isIn ml_RX2_67 (by omega) rfl rfl (Nat.le_of_ble_eq_true rfl) dX2_formOf_94 (zpure ?_)
        refine z_if_eq_b 120 dX2_formOf_97 (by decide) (fun h_97 => ?_) (fun h_97 => ?_)
        · refine z_iinc 5 (L' := [(0, _), (1, _), (2, _), (3, _), (4, _), (5, _)]) dX2_formOf_120 (by decide) rfl rfl rfl ?_
          refine z_goto 70 dX2_formOf_123 (by decide) ?_
          refine z_LL _ ?_ (ih (k + 1) (by omega) (by omega))
          rw [formN]
          first | (rw [if_neg (fun hc => by obtain ⟨c1, c2⟩ := hc; first | omega | simp_all)]; rfl) | (rw [if_pos ⟨by omega, by assumption⟩]; rfl)
        · refine z_iload_n 3 dX2_formOf_100 rfl rfl ?_
          refine z_aload_n 0 dX2_formOf_101 rfl rfl ?_
          refine z_getr fl_RX2_25 (by decide) rfl rfl dX2_formOf_102 ?_
          refine z_iload 5 dX2_formOf_105 rfl ?_
          refine z_iald _ (by decide) rfl rfl (by omega) (by decide) dX2_formOf_107 ?_
          rw [e4]
          refine z_iconst dX2_formOf_108 ?_
          refine z_ixor _ (zxorm _) dX2_formOf_109 ?_
          refine z_iand _ zandm dX2_formOf_110 ?_
          refine z_aload_n 0 dX2_formOf_111 rfl rfl ?_
          refine z_iload 5 dX2_formOf_112 rfl ?_
          refine z_iload_n 1 dX2_formOf_114 rfl rfl ?_
          refine z_cv (t_plusOf l hg w H (m := k) (s := s) (by omega) hs) mk_X2_plusOf mi_X2_plusOf ml_RX2_71 (by omega) (by decide) rfl rfl rfl rfl (Nat.le_of_ble_eq_true rfl) dX2_formOf_115 (zpure ?_)
          refine z_ior _ (zor _ _) dX2_formOf_118 ?_
          refine z_istore_n (L' := [(0, _), (1, _), (2, _), (3, _), (4, _), (5, _)]) dX2_formOf_119 rfl (by decide) rfl rfl ?_
          refine z_iinc 5 (L' := [(0, _), (1, _), (2, _), (3, _), (4, _), (5, _)]) dX2_formOf_120 (by decide) rfl rfl rfl ?_
          refine z_goto 70 dX2_formOf_123 (by decide) ?_
          refine z_LL _ ?_ (ih (k + 1) (by omega) (by omega))
          rw [formN]
          first | (rw [if_neg (fun hc => by obtain ⟨c1, c2⟩ := hc; first | omega | simp_all)]; rfl) | (rw [if_pos ⟨by omega, by assumption⟩]; rfl)
theorem formOf_34 {l : Launch} {x : zX} {g : zG} {n : Nat} {Q : Option Value → zD → Prop} {d : zD} {h : Hl} {s : Nat} {b : Bool} (hg : zAmOk g) (w : Wf h) (H : HC 2 d h) (hs : s < 64) (hn : 2 < n) (hQ : Q (some (zi (formF h s : Nat))) d) (hb : b = subOn h s) : zV l x g mX2_formOf n Q 34 [(0, zr g 2), (1, zi (s : Int))] [zi (zb b)] d := by
  have w3 := w.2.2.1
  have w4 := w.2.2.2.2.2.1
  obtain ⟨⟨h0, h1, h2, h3, h4, h5⟩, -⟩ := id H
  refine z_istore_n (L' := [(0, _), (1, _), (2, _)]) dX2_formOf_34 rfl (by decide) rfl rfl ?_
  refine z_iload_n 2 dX2_formOf_35 rfl rfl ?_
  refine z_if_eq_b 51 dX2_formOf_36 (by decide) (fun h_36 => ?_) (fun h_36 => ?_)
  · have f0 : formN h s 0 = hB h := by rw [formN, if_neg (by simp_all)]
    have f1 : fsort h s = 0 := by rw [fsort, if_neg (by simp_all)]
    refine z_aload_n 0 dX2_formOf_51 rfl rfl ?_
    refine z_geti fl_RX2_40 (by decide) rfl rfl dX2_formOf_52 ?_
    first | rw [h0] | skip
    refine z_istore_n (L' := [(0, _), (1, _), (2, _), (3, _)]) dX2_formOf_55 rfl (by decide) rfl rfl ?_
    refine z_iload_n 2 dX2_formOf_56 rfl rfl ?_
    refine z_if_eq_b 64 dX2_formOf_57 (by decide) (fun h_57 => ?_) (fun h_57 => ?_)
    · refine z_iconst dX2_formOf_64 ?_
      refine z_istore (L' := [(0, _), (1, _), (2, _), (3, _), (4, _)]) dX2_formOf_65 (by decide) rfl rfl ?_
      refine z_iconst dX2_formOf_67 ?_
      refine z_istore (L' := [(0, _), (1, _), (2, _), (3, _), (4, _), (5, _)]) dX2_formOf_68 (by decide) rfl rfl ?_
      first | (rw [h_36] at h_57; cases h_57; done) | (have hh := lp_formOf (b := zb b) (x := x) (n := n) (Q := Q) (l := l) hg w H hs hn hQ (hN h + 1) 0 (by omega) (by omega); rw [f0, f1] at hh; exact hh)
    · refine z_iconst dX2_formOf_60 ?_
      refine z_goto 65 dX2_formOf_61 (by decide) ?_
      refine z_istore (L' := [(0, _), (1, _), (2, _), (3, _), (4, _)]) dX2_formOf_65 (by decide) rfl rfl ?_
      refine z_iconst dX2_formOf_67 ?_
      refine z_istore (L' := [(0, _), (1, _), (2, _), (3, _), (4, _), (5, _)]) dX2_formOf_68 (by decide) rfl rfl ?_
      first | (rw [h_36] at h_57; cases h_57; done) | (have hh := lp_formOf (b := zb b) (x := x) (n := n) (Q := Q) (l := l) hg w H hs hn hQ (hN h + 1) 0 (by omega) (by omega); rw [f0, f1] at hh; exact hh)
  · have hon : subOn h s = true := by simp_all
    have f0 : formN h s 0 = hpl h (hS h).toNat := by rw [formN, if_pos hon]
    have f1 : fsort h s = 2 := by rw [fsort, if_pos hon]
    have hS0 : 0 ≤ hS h := by simp only [subOn, Bool.and_eq_true, decide_eq_true_eq] at hon; exact hon.1
    have e := (H.m (show (hS h).toNat < hN h by omega)).2.2.1
    refine z_aload_n 0 dX2_formOf_39 rfl rfl ?_
    refine z_getr fl_RX2_22 (by decide) rfl rfl dX2_formOf_40 ?_
    refine z_aload_n 0 dX2_formOf_43 rfl rfl ?_
    refine z_geti fl_RX2_9 (by decide) rfl rfl dX2_formOf_44 ?_
    rw [h2]
    refine z_iald (hS h).toNat (by decide) rfl (by omega) (by omega) (by decide) dX2_formOf_47 ?_
    rw [e]
    refine z_goto 55 dX2_formOf_48 (by decide) ?_
    first | rw [h0] | skip
    refine z_istore_n (L' := [(0, _), (1, _), (2, _), (3, _)]) dX2_formOf_55 rfl (by decide) rfl rfl ?_
    refine z_iload_n 2 dX2_formOf_56 rfl rfl ?_
    refine z_if_eq_b 64 dX2_formOf_57 (by decide) (fun h_57 => ?_) (fun h_57 => ?_)
    · refine z_iconst dX2_formOf_64 ?_
      refine z_istore (L' := [(0, _), (1, _), (2, _), (3, _), (4, _)]) dX2_formOf_65 (by decide) rfl rfl ?_
      refine z_iconst dX2_formOf_67 ?_
      refine z_istore (L' := [(0, _), (1, _), (2, _), (3, _), (4, _), (5, _)]) dX2_formOf_68 (by decide) rfl rfl ?_
      first | (rw [h_36] at h_57; cases h_57; done) | (have hh := lp_formOf (b := zb b) (x := x) (n := n) (Q := Q) (l := l) hg w H hs hn hQ (hN h + 1) 0 (by omega) (by omega); rw [f0, f1] at hh; exact hh)
    · refine z_iconst dX2_formOf_60 ?_
      refine z_goto 65 dX2_formOf_61 (by decide) ?_
      refine z_istore (L' := [(0, _), (1, _), (2, _), (3, _), (4, _)]) dX2_formOf_65 (by decide) rfl rfl ?_
      refine z_iconst dX2_formOf_67 ?_
      refine z_istore (L' := [(0, _), (1, _), (2, _), (3, _), (4, _), (5, _)]) dX2_formOf_68 (by decide) rfl rfl ?_
      first | (rw [h_36] at h_57; cases h_57; done) | (have hh := lp_formOf (b := zb b) (x := x) (n := n) (Q := Q) (l := l) hg w H hs hn hQ (hN h + 1) 0 (by omega) (by omega); rw [f0, f1] at hh; exact hh)
theorem t_formOf (l : Launch) {g : zG} (hg : zAmOk g) {d : zD} {h : Hl} (w : Wf h) (H : HC 2 d h) {s : Nat} (hs : s < 64) : zC l g mX2_formOf 3 [zr g 2, zi (s : Int)] d (zpu (zi (formF h s : Nat)) d) := by
  have w3 := w.2.2.1
  have w4 := w.2.2.2.2.2.1
  obtain ⟨⟨h0, h1, h2, h3, h4, h5⟩, -⟩ := id H
  refine zC_of (L := [(0, _), (1, _)]) mk_X2_formOf (Nat.le_of_ble_eq_true rfl) hg rfl (fun x => ?_)
  refine z_aload_n 0 dX2_formOf_0 rfl rfl ?_
  refine z_geti fl_RX2_9 (by decide) rfl rfl dX2_formOf_1 ?_
  rw [h2]
  refine z_if_lt 33 (by omega) dX2_formOf_4 (by decide) (fun h_4 => ?_) (fun h_4 => ?_)
  · refine z_iconst dX2_formOf_33 ?_
    first | (refine formOf_34 (b := false) hg w H hs (by omega) ⟨rfl, rfl⟩ ?_; unfold subOn; first | (rw [decide_eq_false (by omega)]; rfl) | (rw [decide_eq_true (by omega), h_26]; rfl)) | (refine formOf_34 (b := true) hg w H hs (by omega) ⟨rfl, rfl⟩ ?_; unfold subOn; rw [decide_eq_true (by omega), h_26]; rfl)
  · refine z_aload_n 0 dX2_formOf_7 rfl rfl ?_
    refine z_geti fl_RX2_9 (by decide) rfl rfl dX2_formOf_8 ?_
    refine z_aload_n 0 dX2_formOf_11 rfl rfl ?_
    refine z_geti fl_RX2_46 (by decide) rfl rfl dX2_formOf_12 ?_
    rw [h2, h3]
    refine z_icmp_ge 33 (by omega) (by omega) dX2_formOf_15 (by decide) (fun h_15 => absurd h_15 (by omega)) (fun h_15 => ?_)
    refine z_aload_n 0 dX2_formOf_18 rfl rfl ?_
    refine z_geti fl_RX2_9 (by decide) rfl rfl dX2_formOf_19 ?_
    refine z_iload_n 1 dX2_formOf_22 rfl rfl ?_
    rw [h2, show hS h = (((hS h).toNat : Nat) : Int) by omega]
    refine z_cs (t_isIn l hg d (m := (hS h).toNat) (s := s) (by omega) (by omega)) mk_X7_isIn ms_X7_isIn ml_RX2_67 (by omega) rfl rfl (Nat.le_of_ble_eq_true rfl) dX2_formOf_23 (zpure ?_)
    refine z_if_eq_b 33 dX2_formOf_26 (by decide) (fun h_26 => ?_) (fun h_26 => ?_)
    · refine z_iconst dX2_formOf_33 ?_
      first | (refine formOf_34 (b := false) hg w H hs (by omega) ⟨rfl, rfl⟩ ?_; unfold subOn; first | (rw [decide_eq_false (by omega)]; rfl) | (rw [decide_eq_true (by omega), h_26]; rfl)) | (refine formOf_34 (b := true) hg w H hs (by omega) ⟨rfl, rfl⟩ ?_; unfold subOn; rw [decide_eq_true (by omega), h_26]; rfl)
    · refine z_iconst dX2_formOf_29 ?_
      refine z_goto 34 dX2_formOf_30 (by decide) ?_
      first | (refine formOf_34 (b := false) hg w H hs (by omega) ⟨rfl, rfl⟩ ?_; unfold subOn; first | (rw [decide_eq_false (by omega)]; rfl) | (rw [decide_eq_true (by omega), h_26]; rfl)) | (refine formOf_34 (b := true) hg w H hs (by omega) ⟨rfl, rfl⟩ ?_; unfold subOn; rw [decide_eq_true (by omega), h_26]; rfl)
/-- d and d' are alike but at the places ps -/
def zF (ps : List Nat) (d d' : zD) : Prop := ∀ p, p ∉ ps → d' p = d p
theorem zF.rf {ps : List Nat} {d : zD} : zF ps d d := fun _ _ => rfl
theorem zF.tr {ps : List Nat} {a b c : zD} (h1 : zF ps a b) (h2 : zF ps b c) : zF ps a c := fun p hp => (h2 p hp).trans (h1 p hp)
theorem zF.up {ps : List Nat} {a b : zD} (h1 : zF ps a b) {q i : Nat} {v : Int} (hq : q ∈ ps) : zF ps a (zu b q i v) := fun p hp => (zu_ne (q := p) (fun e => hp (by rw [e]; exact hq))).trans (h1 p hp)
theorem zF.mono {ps qs : List Nat} {a b : zD} (h1 : zF ps a b) (h : ∀ p ∈ ps, p ∈ qs) : zF qs a b := fun p hp => h1 p (fun z => hp (h p z))
theorem zF.HC {ps : List Nat} {a b : zD} {h : Hl} (h1 : zF ps a b) (hp : ∀ p ∈ ps, p < 2 ∨ 10 < p) (H : HC 2 a h) : HC 2 b h := HC.of H (fun p h2 h3 => h1 p (fun z => by have := hp p z; omega))
theorem lp_takeForms {l : Launch} {x : zX} {g : zG} {n : Nat} {Q : Option Value → zD → Prop} {d0 : zD} {h : Hl} (hg : zAmOk g) (w : Wf h) (H : HC 2 d0 h) (hn : 3 < n) (hQ : ∀ d, zF [27] d0 d → (∀ s, s < 2 ^ hN h → d 27 s = formF h s) → Q none d) : ∀ r k d, zF [27] d0 d → (∀ s, s < k → d 27 s = formF h s) → k ≤ 2 ^ hN h → 2 ^ hN h - k < r → zV l x g mX6_takeForms n Q 12 [(0, zr g 26), (1, zi ((1 * 2 ^ hN h : Nat) : Int)), (2, zi (k : Int))] [] d := by
  have w3 := w.2.2.1
  have hp : 2 ^ hN h ≤ 64 := Nat.pow_le_pow_right (n := 2) (by decide) w3
  intro r
  induction r with
  | zero => intro k d hf hd hk hr; omega
  | succ r ih =>
    intro k d hf hd hk hr
    have H' : HC 2 d h := hf.HC (by decide) H
    refine z_iload_n 2 dX6_takeForms_12 rfl rfl ?_
    refine z_iload_n 1 dX6_takeForms_13 rfl rfl ?_
    refine z_icmp_ge 37 (by omega) (by omega) dX6_takeForms_14 (by decide) (fun h_14 => ?_) (fun h_14 => ?_)
    · exact z_vret rfl dX6_takeForms_37 (hQ d hf (fun s hs => hd s (by omega)))
    · refine z_aload_n 0 dX6_takeForms_17 rfl rfl ?_
      refine z_getr fl_RX6_9 (by decide) rfl rfl dX6_takeForms_18 ?_
      refine z_iload_n 2 dX6_takeForms_21 rfl rfl ?_
      refine z_aload_n 0 dX6_takeForms_22 rfl rfl ?_
      refine z_getr fl_RX6_24 (by decide) rfl rfl dX6_takeForms_23 ?_
      refine z_iload_n 2 dX6_takeForms_26 rfl rfl ?_
      refine z_cv (t_formOf l hg w H' (s := k) (by omega)) mk_X2_formOf mi_X2_formOf ml_RX6_42 (by omega) (by decide) rfl rfl rfl rfl (Nat.le_of_ble_eq_true rfl) dX6_takeForms_27 (zpure ?_)
      refine z_iast _ (by decide) rfl rfl (by omega) (by decide) dX6_takeForms_30 ?_
      refine z_iinc 2 (L' := [(0, _), (1, _), (2, _)]) dX6_takeForms_31 (by decide) rfl rfl rfl ?_
      refine z_goto 12 dX6_takeForms_34 (by decide) ?_
      refine ih (k + 1) _ (hf.up (by decide)) (fun s hs => ?_) (by omega) (by omega)
      rw [zu_row]
      split
      · rename_i e; rw [e]
      · exact hd s (by omega)
theorem t_takeForms (l : Launch) {g : zG} (hg : zAmOk g) {d : zD} {h : Hl} (w : Wf h) (H : HC 2 d h) : zC l g mX6_takeForms 4 [zr g 26] d (fun r d' => r = none ∧ (zF [27] d d' ∧ ∀ s, s < 2 ^ hN h → d' 27 s = formF h s)) := by
  have w3 := w.2.2.1
  have hp : 2 ^ hN h ≤ 64 := Nat.pow_le_pow_right (n := 2) (by decide) w3
  have h3 : d 2 3 = hN h := H.1.2.2.2.1
  have hp0 : 0 < 2 ^ hN h := Nat.two_pow_pos _
  refine zC_of (L := [(0, _)]) mk_X6_takeForms (Nat.le_of_ble_eq_true rfl) hg rfl (fun x => ?_)
  refine z_iconst dX6_takeForms_0 ?_
  refine z_aload_n 0 dX6_takeForms_1 rfl rfl ?_
  refine z_getr fl_RX6_24 (by decide) rfl rfl dX6_takeForms_2 ?_
  refine z_geti fl_RX6_36 (by decide) rfl rfl dX6_takeForms_5 ?_
  rw [h3]
  refine z_ishl _ (zshl (s := 1) (m := hN h) (by omega) (by omega)) dX6_takeForms_8 ?_
  refine z_istore_n (L' := [(0, _), (1, _)]) dX6_takeForms_9 rfl (by decide) rfl rfl ?_
  refine z_iconst dX6_takeForms_10 ?_
  refine z_istore_n (L' := [(0, _), (1, _), (2, _)]) dX6_takeForms_11 rfl (by decide) rfl rfl ?_
  exact lp_takeForms hg w H (by omega) (fun d' h1 h2 => ⟨rfl, h1, h2⟩) (2 ^ hN h + 1) 0 d zF.rf (fun s hs => absurd hs (by omega)) (by omega) (by omega)
def goneN (h : Hl) (m : Nat) : Nat → Nat
  | 0 => 2 ^ m
  | k + 1 => if m < k ∧ hpa h k ≠ -1 ∧ (goneN h m k).testBit (hpa h k).toNat = true then goneN h m k ||| 2 ^ k else goneN h m k
def goneF (h : Hl) (m : Nat) : Nat := goneN h m (hN h)
theorem goneN_0 (h : Hl) (m : Nat) : ∀ k, k ≤ m + 1 → goneN h m k = 2 ^ m
  | 0, _ => rfl
  | k + 1, hk => by rw [goneN, if_neg (by omega)]; exact goneN_0 h m k (by omega)
theorem goneN_lt {h : Hl} {m : Nat} : ∀ k, m < hN h → k ≤ hN h → goneN h m k < 2 ^ hN h
  | 0, hm, _ => Nat.pow_lt_pow_right (by decide) hm
  | k + 1, hm, hk => by
    have ih := goneN_lt (h := h) (m := m) k hm (by omega)
    rw [goneN]
    split
    · exact or_lt ih (Nat.pow_lt_pow_right (by decide) (by omega))
    · exact ih
theorem Wf.pa {h : Hl} (w : Wf h) {k : Nat} (hk : k < hN h) : hpa h k = -1 ∨ (0 ≤ hpa h k ∧ hpa h k < k) := by
  obtain ⟨a1, a2, a3, a4, a5, a6, a7⟩ := w.2.2.2.2.2.2.1 k hk
  rcases (show hso h k = 0 ∨ hso h k = 1 ∨ hso h k = 2 ∨ hso h k = 3 by omega) with e | e | e | e
  · exact Or.inl (a5 (Or.inl e))
  · exact Or.inl (a5 (Or.inr e))
  · have := a6 e; omega
  · have := a7 e; omega
theorem lp_goneWith {l : Launch} {x : zX} {g : zG} {n : Nat} {Q : Option Value → zD → Prop} {d : zD} {h : Hl} {m : Nat} (hg : zAmOk g) (w : Wf h) (H : HC 2 d h) (hm : m < hN h) (hn : 1 < n) (hQ : Q (some (zi (goneF h m : Nat))) d) : ∀ r k, m < k → k ≤ hN h → hN h - k < r → zV l x g mX2_goneWith n Q 8 [(0, zr g 2), (1, zi (m : Int)), (2, zi (goneN h m k : Nat)), (3, zi (k : Int))] [] d := by
  have w3 := w.2.2.1
  have h3 : d 2 3 = hN h := H.1.2.2.2.1
  have hp : 2 ^ hN h ≤ 64 := Nat.pow_le_pow_right (n := 2) (by decide) w3
  intro r
  induction r with
  | zero => intro k hmk hk hr; omega
  | succ r ih =>
    intro k hmk hk hr
    have hgl := goneN_lt (h := h) (m := m) k hm hk
    refine z_iload_n 3 dX2_goneWith_8 rfl rfl ?_
    refine z_aload_n 0 dX2_goneWith_9 rfl rfl ?_
    refine z_geti fl_RX2_46 (by decide) rfl rfl dX2_goneWith_10 ?_
    rw [h3]
    refine z_icmp_ge 51 (by omega) (by omega) dX2_goneWith_13 (by decide) (fun h_13 => ?_) (fun h_13 => ?_)
    · have hkN : k = hN h := by omega
      rw [hkN]
      refine z_iload_n 2 dX2_goneWith_51 rfl rfl ?_
      exact z_iret rfl dX2_goneWith_52 (hQ)
    · obtain ⟨e1, e2, e3, e4⟩ := H.m (show k < hN h by omega)
      have hpw := w.pa (show k < hN h by omega)
      have hpk : 2 ^ k < 2 ^ hN h := Nat.pow_lt_pow_right (by decide) (by omega)
      refine z_aload_n 0 dX2_goneWith_16 rfl rfl ?_
      refine z_getr fl_RX2_19 (by decide) rfl rfl dX2_goneWith_17 ?_
      refine z_iload_n 3 dX2_goneWith_20 rfl rfl ?_
      refine z_iald _ (by decide) rfl rfl (by omega) (by decide) dX2_goneWith_21 ?_
      refine z_iconst dX2_goneWith_22 ?_
      rw [e2]
      refine z_icmp_eq 45 (by omega) (by omega) dX2_goneWith_23 (by decide) (fun h_23 => ?_) (fun h_23 => ?_)
      · refine z_iinc 3 (L' := [(0, _), (1, _), (2, _), (3, _)]) dX2_goneWith_45 (by decide) rfl rfl rfl ?_
        refine z_goto 8 dX2_goneWith_48 (by decide) ?_
        refine z_LL _ ?_ (ih (k + 1) (by omega) (by omega) (by omega))
        rw [goneN]
        first | (rw [if_neg (fun hc => by obtain ⟨c1, c2, c3⟩ := hc; first | omega | simp_all)]; rfl) | (rw [if_pos ⟨by omega, by omega, by assumption⟩, Nat.one_mul]; rfl)
      · refine z_aload_n 0 dX2_goneWith_26 rfl rfl ?_
        refine z_getr fl_RX2_19 (by decide) rfl rfl dX2_goneWith_27 ?_
        refine z_iload_n 3 dX2_goneWith_30 rfl rfl ?_
        refine z_iald _ (by decide) rfl rfl (by omega) (by decide) dX2_goneWith_31 ?_
        rw [e2, show hpa h k = (((hpa h k).toNat : Nat) : Int) by omega]
        refine z_iload_n 2 dX2_goneWith_32 rfl rfl ?_
        refine z_cs (t_isIn l hg d (m := (hpa h k).toNat) (s := goneN h m k) (by omega) (by omega)) mk_X7_isIn ms_X7_isIn ml_RX2_67 (by omega) rfl rfl (Nat.le_of_ble_eq_true rfl) dX2_goneWith_33 (zpure ?_)
        refine z_if_eq_b 45 dX2_goneWith_36 (by decide) (fun h_36 => ?_) (fun h_36 => ?_)
        · refine z_iinc 3 (L' := [(0, _), (1, _), (2, _), (3, _)]) dX2_goneWith_45 (by decide) rfl rfl rfl ?_
          refine z_goto 8 dX2_goneWith_48 (by decide) ?_
          refine z_LL _ ?_ (ih (k + 1) (by omega) (by omega) (by omega))
          rw [goneN]
          first | (rw [if_neg (fun hc => by obtain ⟨c1, c2, c3⟩ := hc; first | omega | simp_all)]; rfl) | (rw [if_pos ⟨by omega, by omega, by assumption⟩, Nat.one_mul]; rfl)
        · refine z_iload_n 2 dX2_goneWith_39 rfl rfl ?_
          refine z_iconst dX2_goneWith_40 ?_
          refine z_iload_n 3 dX2_goneWith_41 rfl rfl ?_
          refine z_ishl _ (zshl (s := 1) (m := k) (by omega) (by omega)) dX2_goneWith_42 ?_
          refine z_ior _ (zor _ _) dX2_goneWith_43 ?_
          refine z_istore_n (L' := [(0, _), (1, _), (2, _), (3, _)]) dX2_goneWith_44 rfl (by decide) rfl rfl ?_
          refine z_iinc 3 (L' := [(0, _), (1, _), (2, _), (3, _)]) dX2_goneWith_45 (by decide) rfl rfl rfl ?_
          refine z_goto 8 dX2_goneWith_48 (by decide) ?_
          refine z_LL _ ?_ (ih (k + 1) (by omega) (by omega) (by omega))
          rw [goneN]
          first | (rw [if_neg (fun hc => by obtain ⟨c1, c2, c3⟩ := hc; first | omega | simp_all)]; rfl) | (rw [if_pos ⟨by omega, by omega, by assumption⟩, Nat.one_mul]; rfl)
theorem t_goneWith (l : Launch) {g : zG} (hg : zAmOk g) {d : zD} {h : Hl} (w : Wf h) (H : HC 2 d h) {m : Nat} (hm : m < hN h) : zC l g mX2_goneWith 2 [zr g 2, zi (m : Int)] d (zpu (zi (goneF h m : Nat)) d) := by
  have w3 := w.2.2.1
  have hp : 2 ^ m < 2 ^ hN h := Nat.pow_lt_pow_right (by decide) hm
  have hp2 : 2 ^ hN h ≤ 64 := Nat.pow_le_pow_right (n := 2) (by decide) w3
  refine zC_of (L := [(0, _), (1, _)]) mk_X2_goneWith (Nat.le_of_ble_eq_true rfl) hg rfl (fun x => ?_)
  refine z_iconst dX2_goneWith_0 ?_
  refine z_iload_n 1 dX2_goneWith_1 rfl rfl ?_
  refine z_ishl _ (zshl (s := 1) (m := m) (by omega) (by omega)) dX2_goneWith_2 ?_
  refine z_istore_n (L' := [(0, _), (1, _), (2, _)]) dX2_goneWith_3 rfl (by decide) rfl rfl ?_
  refine z_iload_n 1 dX2_goneWith_4 rfl rfl ?_
  refine z_iconst dX2_goneWith_5 ?_
  refine z_iadd dX2_goneWith_6 ?_
  refine z_istore_n (L' := [(0, _), (1, _), (2, _), (3, _)]) dX2_goneWith_7 rfl (by decide) rfl rfl ?_
  have hh := lp_goneWith (l := l) (x := x) (Q := zpu (zi (goneF h m : Nat)) d) (n := 2) hg w H hm (by omega) ⟨rfl, rfl⟩ (hN h + 1) (m + 1) (by omega) (by omega) (by omega)
  rw [goneN_0 h m (m + 1) (by omega)] at hh
  rw [Nat.one_mul]
  exact hh
