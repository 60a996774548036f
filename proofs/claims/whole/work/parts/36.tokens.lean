/-! the class's Reader: tokens -/
def TX (d : zD) (tp : Nat → Nat) (tl : Nat) : Prop := d 20 2 = tl ∧ tl ≤ 400 ∧ ∀ i, i < tl → d 1 i = tp i ∧ tp i < 256
def TK (d : zD) (tp : Nat → Nat) (tl p : Nat) : Prop := TX d tp tl ∧ p ≤ tl ∧ d 20 5 = kd tp tl p ∧ d 20 6 = sk tp tl p ∧ d 20 7 = en tp tl p ∧ (kd tp tl p = 2 → d 20 8 = nv tp tl p) ∧ (kd tp tl p = 3 → d 20 8 = tp (sk tp tl p))
def RF (d d' : zD) : Prop := zF [20] d d' ∧ ∀ i, i ≠ 5 → i ≠ 6 → i ≠ 7 → i ≠ 8 → d' 20 i = d 20 i
theorem RF.rf {d : zD} : RF d d := ⟨zF.rf, fun _ _ _ _ _ => rfl⟩
theorem RF.tr {a b c : zD} (h1 : RF a b) (h2 : RF b c) : RF a c := ⟨h1.1.tr h2.1, fun i a1 a2 a3 a4 => (h2.2 i a1 a2 a3 a4).trans (h1.2 i a1 a2 a3 a4)⟩
theorem RF.up {a b : zD} (h : RF a b) {i : Nat} {v : Int} (hi : 5 ≤ i ∧ i ≤ 8) : RF a (zu b 20 i v) := ⟨h.1.up (by decide), fun j a1 a2 a3 a4 => by rw [zu_row, if_neg (by omega)]; exact h.2 j a1 a2 a3 a4⟩
theorem TX.of {d d' : zD} {tp : Nat → Nat} {tl : Nat} (T : TX d tp tl) (e : d' 20 2 = d 20 2) (e2 : d' 1 = d 1) : TX d' tp tl := ⟨by rw [e]; exact T.1, T.2.1, fun i hi => by rw [e2]; exact T.2.2 i hi⟩
theorem RF.TX {d d' : zD} {tp : Nat → Nat} {tl : Nat} (h : RF d d') (T : TX d tp tl) : TX d' tp tl := T.of (h.2 2 (by decide) (by decide) (by decide) (by decide)) (h.1 1 (by decide))
theorem kd_le (tp : Nat → Nat) (tl p : Nat) : kd tp tl p ≤ 4 := by unfold kd; split; omega; split; omega; split; split <;> omega; omega
theorem lp_endOfRun {l : Launch} {x : zX} {g : zG} {n : Nat} {Q : Option Value → zD → Prop} {d : zD} {tp : Nat → Nat} {tl lo hi s : Nat} (hg : zAmOk g) (T : TX d tp tl) (hlo : lo < 256) (hhi : hi < 256) (hQ : Q (some (zi (rn tp tl lo hi s : Nat))) d) : ∀ r k, rn tp tl lo hi k = rn tp tl lo hi s → k ≤ tl → tl - k < r → zV l x g mX3_endOfRun n Q 5 [(0, zr g 20), (1, zi (lo : Int)), (2, zi (hi : Int)), (3, zi (k : Int))] [] d := by
  obtain ⟨t1, t2, t3⟩ := id T
  intro r
  induction r with
  | zero => intro k hk hl hr; omega
  | succ r ih =>
    intro k hk hl hr
    refine z_iload_n 3 dX3_endOfRun_5 rfl rfl ?_
    refine z_aload_n 0 dX3_endOfRun_6 rfl rfl ?_
    refine z_geti fl_RX3_28 (by decide) rfl rfl dX3_endOfRun_7 ?_
    rw [t1]
    refine z_icmp_ge 39 (by omega) (by omega) dX3_endOfRun_10 (by decide) (fun h_10 => ?_) (fun h_10 => ?_)
    · rw [show k = rn tp tl lo hi s by rw [← hk, rn_f (by omega)]]
      refine z_iload_n 3 dX3_endOfRun_39 rfl rfl ?_
      exact z_iret rfl dX3_endOfRun_40 (hQ)
    · obtain ⟨e1, e2⟩ := t3 k (by omega)
      refine z_aload_n 0 dX3_endOfRun_13 rfl rfl ?_
      refine z_getr fl_RX3_9 (by decide) rfl rfl dX3_endOfRun_14 ?_
      refine z_iload_n 3 dX3_endOfRun_17 rfl rfl ?_
      refine z_iald _ (by decide) rfl rfl (by omega) (by decide) dX3_endOfRun_18 ?_
      refine z_iload_n 1 dX3_endOfRun_19 rfl rfl ?_
      rw [e1]
      refine z_icmp_lt 39 (by omega) (by omega) dX3_endOfRun_20 (by decide) (fun h_20 => ?_) (fun h_20 => ?_)
      · rw [show k = rn tp tl lo hi s by rw [← hk, rn_f (by omega)]]
        refine z_iload_n 3 dX3_endOfRun_39 rfl rfl ?_
        exact z_iret rfl dX3_endOfRun_40 (hQ)
      · refine z_aload_n 0 dX3_endOfRun_23 rfl rfl ?_
        refine z_getr fl_RX3_9 (by decide) rfl rfl dX3_endOfRun_24 ?_
        refine z_iload_n 3 dX3_endOfRun_27 rfl rfl ?_
        refine z_iald _ (by decide) rfl rfl (by omega) (by decide) dX3_endOfRun_28 ?_
        refine z_iload_n 2 dX3_endOfRun_29 rfl rfl ?_
        rw [e1]
        refine z_icmp_gt 39 (by omega) (by omega) dX3_endOfRun_30 (by decide) (fun h_30 => ?_) (fun h_30 => ?_)
        · rw [show k = rn tp tl lo hi s by rw [← hk, rn_f (by omega)]]
          refine z_iload_n 3 dX3_endOfRun_39 rfl rfl ?_
          exact z_iret rfl dX3_endOfRun_40 (hQ)
        · refine z_iinc 3 (L' := [(0, _), (1, _), (2, _), (3, _)]) dX3_endOfRun_33 (by decide) rfl rfl rfl ?_
          refine z_goto 5 dX3_endOfRun_36 (by decide) ?_
          exact ih (k + 1) (by rw [← hk]; exact (rn_t ⟨by omega, by omega, by omega⟩).symm) (by omega) (by omega)
theorem t_endOfRun (l : Launch) {g : zG} (hg : zAmOk g) {d : zD} {tp : Nat → Nat} {tl lo hi s : Nat} (T : TX d tp tl) (hs : d 20 6 = s) (hsl : s ≤ tl) (hlo : lo < 256) (hhi : hi < 256) : zC l g mX3_endOfRun 1 [zr g 20, zi (lo : Int), zi (hi : Int)] d (zpu (zi (rn tp tl lo hi s : Nat)) d) := by
  refine zC_of (L := [(0, _), (1, _), (2, _)]) mk_X3_endOfRun (Nat.le_of_ble_eq_true rfl) hg rfl (fun x => ?_)
  refine z_aload_n 0 dX3_endOfRun_0 rfl rfl ?_
  refine z_geti fl_RX3_139 (by decide) rfl rfl dX3_endOfRun_1 ?_
  rw [hs]
  refine z_istore_n (L' := [(0, _), (1, _), (2, _), (3, _)]) dX3_endOfRun_4 rfl (by decide) rfl rfl ?_
  exact lp_endOfRun hg T hlo hhi ⟨rfl, rfl⟩ (tl + 1) s rfl hsl (by omega)
theorem lp_takeNumber {l : Launch} {x : zX} {g : zG} {n : Nat} {Q : Option Value → zD → Prop} {d0 : zD} {tp : Nat → Nat} {tl s e : Nat} (hg : zAmOk g) (T : TX d0 tp tl) (hse : s ≤ e) (he : e ≤ tl) (h3 : e - s ≤ 3) (hdg : ∀ i, s ≤ i → i < e → 48 ≤ tp i ∧ tp i ≤ 57) (hQ : ∀ d, RF d0 d → (∀ i, i ≠ 8 → d 20 i = d0 20 i) → d 20 8 = nvN tp s (e - s) → Q none d) (h6 : d0 20 6 = s) (h7 : d0 20 7 = e) (h5 : d0 20 5 = 2) : ∀ r k d, RF d0 d → (∀ i, i ≠ 8 → d 20 i = d0 20 i) → d 20 8 = nvN tp s k → s + k ≤ e → e - (s + k) < r → zV l x g mX3_takeNumber n Q 32 [(0, zr g 20), (1, zi ((s + k : Nat) : Int))] [] d := by
  have t2 := T.2.1
  intro r
  induction r with
  | zero => intro k d hf hi h8 hk hr; omega
  | succ r ih =>
    intro k d hf hi h8 hk hr
    have T' := hf.TX T
    have e7 : d 20 7 = e := by rw [hi 7 (by decide)]; exact h7
    have e5 : d 20 5 = 2 := by rw [hi 5 (by decide)]; exact h5
    refine z_iload_n 1 dX3_takeNumber_32 rfl rfl ?_
    refine z_aload_n 0 dX3_takeNumber_33 rfl rfl ?_
    refine z_geti fl_RX3_44 (by decide) rfl rfl dX3_takeNumber_34 ?_
    rw [e7]
    refine z_icmp_ge 75 (by omega) (by omega) dX3_takeNumber_37 (by decide) (fun h_37 => ?_) (fun h_37 => ?_)
    · exact z_vret rfl dX3_takeNumber_75 (hQ d hf hi (by rw [h8, show k = e - s by omega]))
    · obtain ⟨e1, e2⟩ := T'.2.2 (s + k) (by omega)
      have hd := hdg (s + k) (by omega) (by omega)
      refine z_aload_n 0 dX3_takeNumber_40 rfl rfl ?_
      refine z_geti fl_RX3_50 (by decide) rfl rfl dX3_takeNumber_41 ?_
      refine z_iconst dX3_takeNumber_44 ?_
      rw [e5]
      refine z_icmp_ne 75 (by omega) (by omega) dX3_takeNumber_45 (by decide) (fun h_45 => absurd rfl h_45) (fun h_45 => ?_)
      refine z_aload_n 0 dX3_takeNumber_48 rfl rfl ?_
      refine z_aload_n 0 dX3_takeNumber_49 rfl rfl ?_
      refine z_geti fl_RX3_124 (by decide) rfl rfl dX3_takeNumber_50 ?_
      refine z_bipush dX3_takeNumber_53 (by decide) ?_
      refine z_imul dX3_takeNumber_55 ?_
      refine z_aload_n 0 dX3_takeNumber_56 rfl rfl ?_
      refine z_getr fl_RX3_9 (by decide) rfl rfl dX3_takeNumber_57 ?_
      refine z_iload_n 1 dX3_takeNumber_60 rfl rfl ?_
      refine z_iald _ (by decide) rfl rfl (by omega) (by decide) dX3_takeNumber_61 ?_
      rw [h8, e1]
      refine z_iadd dX3_takeNumber_62 ?_
      refine z_bipush dX3_takeNumber_63 (by decide) ?_
      refine z_isub dX3_takeNumber_65 ?_
      refine z_top ((nvN tp s (k + 1) : Nat) : Int) (by rw [nvN]; omega) ?_
      refine z_puti fp_RX3_124 (by decide) rfl rfl dX3_takeNumber_66 ?_
      refine z_iinc 1 (L' := [(0, _), (1, _)]) dX3_takeNumber_69 (by decide) rfl rfl rfl ?_
      refine z_goto 32 dX3_takeNumber_72 (by decide) ?_
      refine z_LL _ ?_ (ih (k + 1) _ (hf.up (by decide)) (fun i hi2 => by rw [zu_row, if_neg hi2]; exact hi i hi2) (zu_at _ _ _ _) (by omega) (by omega))
      rw [show ((s + k : Nat) : Int) + 1 = ((s + (k + 1) : Nat) : Int) by omega]
theorem t_takeNumber (l : Launch) {g : zG} (hg : zAmOk g) {d : zD} {tp : Nat → Nat} {tl s e : Nat} (T : TX d tp tl) (hse : s ≤ e) (he : e ≤ tl) (hdg : ∀ i, s ≤ i → i < e → 48 ≤ tp i ∧ tp i ≤ 57) (h6 : d 20 6 = s) (h7 : d 20 7 = e) : zC l g mX3_takeNumber 1 [zr g 20] d (fun r d' => r = none ∧ (RF d d' ∧ d' 20 5 = ((if 3 < e - s then 4 else 2 : Nat) : Int) ∧ d' 20 6 = s ∧ d' 20 7 = e ∧ (e - s ≤ 3 → d' 20 8 = nvN tp s (e - s)))) := by
  have t2 := T.2.1
  refine zC_of (L := [(0, _)]) mk_X3_takeNumber (Nat.le_of_ble_eq_true rfl) hg rfl (fun x => ?_)
  refine z_aload_n 0 dX3_takeNumber_0 rfl rfl ?_
  refine z_iconst dX3_takeNumber_1 ?_
  refine z_puti fp_RX3_124 (by decide) rfl rfl dX3_takeNumber_2 ?_
  refine z_aload_n 0 dX3_takeNumber_5 rfl rfl ?_
  refine z_aload_n 0 dX3_takeNumber_6 rfl rfl ?_
  refine z_geti fl_RX3_44 (by decide) rfl rfl dX3_takeNumber_7 ?_
  refine z_aload_n 0 dX3_takeNumber_10 rfl rfl ?_
  refine z_geti fl_RX3_139 (by decide) rfl rfl dX3_takeNumber_11 ?_
  refine z_isub dX3_takeNumber_14 ?_
  refine z_iconst dX3_takeNumber_15 ?_
  rw [zu_row, zu_row]
  rw [if_neg (show (7 : Nat) ≠ 8 by decide), if_neg (show (6 : Nat) ≠ 8 by decide), h7, h6]
  refine z_icmp_le 23 (by omega) (by omega) dX3_takeNumber_16 (by decide) (fun h_16 => ?_) (fun h_16 => ?_)
  · refine z_iconst dX3_takeNumber_23 ?_
    refine z_puti fp_RX3_50 (by decide) rfl rfl dX3_takeNumber_24 ?_
    refine z_aload_n 0 dX3_takeNumber_27 rfl rfl ?_
    refine z_geti fl_RX3_139 (by decide) rfl rfl dX3_takeNumber_28 ?_
    rw [zu_row, if_neg (show (6 : Nat) ≠ 5 by decide), zu_row, if_neg (show (6 : Nat) ≠ 8 by decide), h6]
    refine z_istore_n (L' := [(0, _), (1, _)]) dX3_takeNumber_31 rfl (by decide) rfl rfl ?_
    refine lp_takeNumber (d0 := zu (zu d 20 8 0) 20 5 2) (s := s) (e := e) hg (T.of (by simp [zu]) (by rw [zu_ne (by decide), zu_ne (by decide)])) hse he (by omega) hdg (fun d' g1 g2 g3 => ⟨rfl, (RF.rf.up (i := 8) (by decide)).up (i := 5) (by decide) |>.tr g1, ?_, ?_, ?_, fun _ => g3⟩) (by simp [zu, h6]) (by simp [zu, h7]) (by simp [zu]) (e + 1) 0 _ RF.rf (fun _ _ => rfl) (by simp [zu, nvN]) (by omega) (by omega)
    · rw [g2 5 (by decide), if_neg (by omega), zu_at]; rfl
    · rw [g2 6 (by decide)]; simp [zu, h6]
    · rw [g2 7 (by decide)]; simp [zu, h7]
  · refine z_iconst dX3_takeNumber_19 ?_
    refine z_goto 24 dX3_takeNumber_20 (by decide) ?_
    refine z_puti fp_RX3_50 (by decide) rfl rfl dX3_takeNumber_24 ?_
    refine z_aload_n 0 dX3_takeNumber_27 rfl rfl ?_
    refine z_geti fl_RX3_139 (by decide) rfl rfl dX3_takeNumber_28 ?_
    rw [zu_row, if_neg (show (6 : Nat) ≠ 5 by decide), zu_row, if_neg (show (6 : Nat) ≠ 8 by decide), h6]
    refine z_istore_n (L' := [(0, _), (1, _)]) dX3_takeNumber_31 rfl (by decide) rfl rfl ?_
    refine z_iload_n 1 dX3_takeNumber_32 rfl rfl ?_
    refine z_aload_n 0 dX3_takeNumber_33 rfl rfl ?_
    refine z_geti fl_RX3_44 (by decide) rfl rfl dX3_takeNumber_34 ?_
    rw [show zu (zu d 20 8 0) 20 5 4 20 7 = e by simp [zu, h7]]
    refine z_icmp_ge 75 (by omega) (by omega) dX3_takeNumber_37 (by decide) (fun hh => absurd hh (by omega)) (fun _ => ?_)
    refine z_aload_n 0 dX3_takeNumber_40 rfl rfl ?_
    refine z_geti fl_RX3_50 (by decide) rfl rfl dX3_takeNumber_41 ?_
    refine z_iconst dX3_takeNumber_44 ?_
    rw [show zu (zu d 20 8 0) 20 5 4 20 5 = 4 from zu_at _ _ _ _]
    refine z_icmp_ne 75 (by decide) (by decide) dX3_takeNumber_45 (by decide) (fun _ => ?_) (fun hh => absurd hh (by decide))
    exact z_vret rfl dX3_takeNumber_75 ⟨rfl, (RF.rf.up (i := 8) (by decide)).up (i := 5) (by decide), by rw [if_pos (by omega), zu_at]; rfl, by simp [zu, h6], by simp [zu, h7], fun hh => absurd hh (by omega)⟩
theorem step_60 {l : Launch} {x : zX} {g : zG} {n : Nat} {Q : Option Value → zD → Prop} {d0 d : zD} {tp : Nat → Nat} {tl q s : Nat} (hg : zAmOk g) (T : TX d0 tp tl) (hq : q ≤ tl) (hs : s = sk tp tl q) (hf : RF d0 d) (h6 : d 20 6 = s) (hn : 1 < n) (hQ : ∀ d', RF d0 d' → TK d' tp tl q → Q none d') : zV l x g mX3_step n Q 60 [(0, zr g 20)] [] d := by
  have T' := hf.TX T
  obtain ⟨t1, t2, t3⟩ := id T'
  have hsl := sk_le (tp := tp) hq
  rw [← hs] at hsl
  refine z_aload_n 0 dX3_step_60 rfl rfl ?_
  refine z_geti fl_RX3_139 (by decide) rfl rfl dX3_step_61 ?_
  refine z_aload_n 0 dX3_step_64 rfl rfl ?_
  refine z_geti fl_RX3_28 (by decide) rfl rfl dX3_step_65 ?_
  rw [h6, t1]
  refine z_icmp_lt 85 (by omega) (by omega) dX3_step_68 (by decide) (fun h_68 => ?_) (fun h_68 => ?_)
  · refine z_aload_n 0 dX3_step_85 rfl rfl ?_
    refine z_aload_n 0 dX3_step_86 rfl rfl ?_
    refine z_bipush dX3_step_87 (by decide) ?_
    refine z_bipush dX3_step_89 (by decide) ?_
    refine z_cv (t_endOfRun l hg T' (lo := 97) (hi := 122) (s := s) h6 hsl.2 (by decide) (by decide)) mk_X3_endOfRun mi_X3_endOfRun ml_RX3_180 (by omega) (by decide) rfl rfl rfl rfl (Nat.le_of_ble_eq_true rfl) dX3_step_91 (zpure ?_)
    have r1 := rn_le (tp := tp) (lo := 97) (hi := 122) hsl.2
    obtain ⟨c1, c2⟩ := t3 s (by omega)
    refine z_puti fp_RX3_44 (by decide) rfl rfl dX3_step_94 ?_
    refine z_aload_n 0 dX3_step_97 rfl rfl ?_
    refine z_geti fl_RX3_44 (by decide) rfl rfl dX3_step_98 ?_
    refine z_aload_n 0 dX3_step_101 rfl rfl ?_
    refine z_geti fl_RX3_139 (by decide) rfl rfl dX3_step_102 ?_
    rw [show zu d 20 7 ((rn tp tl 97 122 s : Nat) : Int) 20 7 = ((rn tp tl 97 122 s : Nat) : Int) from zu_at _ _ _ _, show zu d 20 7 ((rn tp tl 97 122 s : Nat) : Int) 20 6 = s by simp [zu, h6]]
    refine z_icmp_le 114 (by omega) (by omega) dX3_step_105 (by decide) (fun h_105 => ?_) (fun h_105 => ?_)
    · have hl : ¬ (97 ≤ tp s ∧ tp s ≤ 122) := fun z => by have := rn_t (tp := tp) (tl := tl) (lo := 97) (hi := 122) (p := s) ⟨by omega, z⟩; have := rn_le (tp := tp) (lo := 97) (hi := 122) (show s + 1 ≤ tl by omega); omega
      refine z_aload_n 0 dX3_step_114 rfl rfl ?_
      refine z_aload_n 0 dX3_step_115 rfl rfl ?_
      refine z_bipush dX3_step_116 (by decide) ?_
      refine z_bipush dX3_step_118 (by decide) ?_
      refine z_cv (t_endOfRun l hg ((hf.up (i := 7) (v := ((rn tp tl 97 122 s : Nat) : Int)) (by decide)).TX T) (lo := 48) (hi := 57) (s := s) (by simp [zu, h6]) hsl.2 (by decide) (by decide)) mk_X3_endOfRun mi_X3_endOfRun ml_RX3_180 (by omega) (by decide) rfl rfl rfl rfl (Nat.le_of_ble_eq_true rfl) dX3_step_120 (zpure ?_)
      have r2 := rn_le (tp := tp) (lo := 48) (hi := 57) hsl.2
      refine z_puti fp_RX3_44 (by decide) rfl rfl dX3_step_123 ?_
      generalize hd1 : zu (zu d 20 7 ((rn tp tl 97 122 s : Nat) : Int)) 20 7 ((rn tp tl 48 57 s : Nat) : Int) = d1
      have hf1 : RF d0 d1 := by rw [← hd1]; exact (hf.up (i := 7) (by decide)).up (i := 7) (by decide)
      have T1 := hf1.TX T
      have e7 : d1 20 7 = ((rn tp tl 48 57 s : Nat) : Int) := by rw [← hd1, zu_at]
      have e6 : d1 20 6 = s := by rw [← hd1]; simp [zu, h6]
      refine z_aload_n 0 dX3_step_126 rfl rfl ?_
      refine z_geti fl_RX3_44 (by decide) rfl rfl dX3_step_127 ?_
      refine z_aload_n 0 dX3_step_130 rfl rfl ?_
      refine z_geti fl_RX3_139 (by decide) rfl rfl dX3_step_131 ?_
      rw [e7, e6]
      refine z_icmp_le 142 (by omega) (by omega) dX3_step_134 (by decide) (fun h_134 => ?_) (fun h_134 => ?_)
      · have hg2 : ¬ (48 ≤ tp s ∧ tp s ≤ 57) := fun z => by have := rn_t (tp := tp) (tl := tl) (lo := 48) (hi := 57) (p := s) ⟨by omega, z⟩; have := rn_le (tp := tp) (lo := 48) (hi := 57) (show s + 1 ≤ tl by omega); omega
        refine z_aload_n 0 dX3_step_142 rfl rfl ?_
        refine z_iconst dX3_step_143 ?_
        refine z_puti fp_RX3_50 (by decide) rfl rfl dX3_step_144 ?_
        refine z_aload_n 0 dX3_step_147 rfl rfl ?_
        refine z_aload_n 0 dX3_step_148 rfl rfl ?_
        refine z_getr fl_RX3_9 (by decide) rfl rfl dX3_step_149 ?_
        refine z_aload_n 0 dX3_step_152 rfl rfl ?_
        refine z_geti fl_RX3_139 (by decide) rfl rfl dX3_step_153 ?_
        rw [show zu d1 20 5 3 20 6 = s by simp [zu, e6]]
        refine z_iald _ (by decide) rfl rfl (by omega) (by decide) dX3_step_156 ?_
        rw [show zu d1 20 5 3 1 s = tp s by rw [zu_ne (by decide)]; exact (T1.2.2 s (by omega)).1]
        refine z_puti fp_RX3_124 (by decide) rfl rfl dX3_step_157 ?_
        refine z_aload_n 0 dX3_step_160 rfl rfl ?_
        refine z_aload_n 0 dX3_step_161 rfl rfl ?_
        refine z_geti fl_RX3_139 (by decide) rfl rfl dX3_step_162 ?_
        rw [show zu (zu d1 20 5 3) 20 8 (tp s : Int) 20 6 = s by simp [zu, e6]]
        refine z_iconst dX3_step_165 ?_
        refine z_iadd dX3_step_166 ?_
        refine z_puti fp_RX3_44 (by decide) rfl rfl dX3_step_167 ?_
        have ekd : kd tp tl q = 3 := by rw [kd, if_neg (by rw [← hs]; omega), ← hs, if_neg hl, if_neg hg2]
        have een : en tp tl q = s + 1 := by rw [en, if_neg (by rw [← hs]; omega), ← hs, if_neg hl, if_neg hg2]
        exact z_vret rfl dX3_step_170 (hQ _ (((hf1.up (i := 5) (by decide)).up (i := 8) (by decide)).up (i := 7) (by decide)) ⟨(((hf1.up (i := 5) (by decide)).up (i := 8) (by decide)).up (i := 7) (by decide)).TX T, hq, by rw [ekd]; simp [zu], by rw [← hs]; simp [zu, e6], by rw [een]; simp [zu], fun hh => absurd hh (by rw [ekd]; decide), fun _ => by rw [← hs]; simp [zu]⟩)
      · have hg2 : 48 ≤ tp s ∧ tp s ≤ 57 := Classical.byContradiction fun z => by have := rn_f (tp := tp) (tl := tl) (lo := 48) (hi := 57) (p := s) (fun y => z y.2); omega
        refine z_aload_n 0 dX3_step_137 rfl rfl ?_
        refine z_cv (t_takeNumber l hg T1 (s := s) (e := rn tp tl 48 57 s) r2.1 r2.2 (fun i h1 h2 => rn_all h1 h2) e6 e7) mk_X3_takeNumber mi_X3_takeNumber ml_RX3_184 (by omega) (by decide) rfl rfl rfl rfl (Nat.le_of_ble_eq_true rfl) dX3_step_138 (zvoid fun d_138 q_138 => ?_)
        obtain ⟨n1, n2, n3, n4, n5⟩ := q_138
        have ekd : kd tp tl q = if 3 < rn tp tl 48 57 s - s then 4 else 2 := by rw [kd, if_neg (by rw [← hs]; omega), ← hs, if_neg hl, if_pos hg2]
        have een : en tp tl q = rn tp tl 48 57 s := by rw [en, if_neg (by rw [← hs]; omega), ← hs, if_neg hl, if_pos hg2]
        exact z_vret rfl dX3_step_141 (hQ _ (hf1.tr n1) ⟨(hf1.tr n1).TX T, hq, by rw [ekd]; exact n2, by rw [← hs]; exact n3, by rw [een]; exact n4, fun hh => by rw [nv, een, ← hs]; rw [ekd] at hh; exact n5 (Classical.byContradiction fun z => by rw [if_pos (by omega)] at hh; exact absurd hh (by decide)), fun hh => (by rw [ekd] at hh; split at hh <;> exact absurd hh (by decide))⟩)
    · have hl : 97 ≤ tp s ∧ tp s ≤ 122 := Classical.byContradiction fun z => by have := rn_f (tp := tp) (tl := tl) (lo := 97) (hi := 122) (p := s) (fun y => z y.2); omega
      refine z_aload_n 0 dX3_step_108 rfl rfl ?_
      refine z_iconst dX3_step_109 ?_
      refine z_puti fp_RX3_50 (by decide) rfl rfl dX3_step_110 ?_
      have ekd : kd tp tl q = 1 := by rw [kd, if_neg (by rw [← hs]; omega), ← hs, if_pos hl]
      have een : en tp tl q = rn tp tl 97 122 s := by rw [en, if_neg (by rw [← hs]; omega), ← hs, if_pos hl]
      exact z_vret rfl dX3_step_113 (hQ _ ((hf.up (i := 7) (by decide)).up (i := 5) (by decide)) ⟨((hf.up (i := 7) (by decide)).up (i := 5) (by decide)).TX T, hq, by rw [ekd]; simp [zu], by rw [← hs]; simp [zu, h6], by rw [een]; simp [zu], fun hh => absurd hh (by rw [ekd]; decide), fun hh => absurd hh (by rw [ekd]; decide)⟩)
  · refine z_aload_n 0 dX3_step_71 rfl rfl ?_
    refine z_iconst dX3_step_72 ?_
    refine z_puti fp_RX3_50 (by decide) rfl rfl dX3_step_73 ?_
    refine z_aload_n 0 dX3_step_76 rfl rfl ?_
    refine z_aload_n 0 dX3_step_77 rfl rfl ?_
    refine z_geti fl_RX3_139 (by decide) rfl rfl dX3_step_78 ?_
    rw [show zu d 20 5 0 20 6 = s by simp [zu, h6]]
    refine z_puti fp_RX3_44 (by decide) rfl rfl dX3_step_81 ?_
    have ekd : kd tp tl q = 0 := by rw [kd, if_pos (by rw [← hs]; omega)]
    have een : en tp tl q = s := by rw [en, if_pos (by rw [← hs]; omega), ← hs]
    exact z_vret rfl dX3_step_84 (hQ _ ((hf.up (i := 5) (by decide)).up (i := 7) (by decide)) ⟨((hf.up (i := 5) (by decide)).up (i := 7) (by decide)).TX T, hq, by rw [ekd]; simp [zu], by rw [← hs]; simp [zu, h6], by rw [een]; simp [zu], fun hh => absurd hh (by rw [ekd]; decide), fun hh => absurd hh (by rw [ekd]; decide)⟩)
theorem lp_step {l : Launch} {x : zX} {g : zG} {n : Nat} {Q : Option Value → zD → Prop} {d0 : zD} {tp : Nat → Nat} {tl q : Nat} (hg : zAmOk g) (T : TX d0 tp tl) (hq : q ≤ tl) (hn : 1 < n) (hQ : ∀ d', RF d0 d' → TK d' tp tl q → Q none d') : ∀ (r k : Nat) (d : zD), RF d0 d → d 20 6 = k → sk tp tl k = sk tp tl q → k ≤ tl → tl - k < r → zV l x g mX3_step n Q 8 [(0, zr g 20)] [] d := by
  intro r
  induction r with
  | zero => intro k d hf h6 hk hl hr; omega
  | succ r ih =>
    intro k d hf h6 hk hl hr
    have T' := hf.TX T
    obtain ⟨t1, t2, t3⟩ := id T'
    refine z_aload_n 0 dX3_step_8 rfl rfl ?_
    refine z_geti fl_RX3_139 (by decide) rfl rfl dX3_step_9 ?_
    refine z_aload_n 0 dX3_step_12 rfl rfl ?_
    refine z_geti fl_RX3_28 (by decide) rfl rfl dX3_step_13 ?_
    rw [h6, t1]
    refine z_icmp_ge 60 (by omega) (by omega) dX3_step_16 (by decide) (fun h_16 => ?_) (fun h_16 => ?_)
    · exact step_60 hg T hq (by rw [← hk]; exact (sk_f (fun c => by omega)).symm) hf h6 hn hQ
    · obtain ⟨e1, e2⟩ := t3 k (by omega)
      refine z_aload_n 0 dX3_step_19 rfl rfl ?_
      refine z_getr fl_RX3_9 (by decide) rfl rfl dX3_step_20 ?_
      refine z_aload_n 0 dX3_step_23 rfl rfl ?_
      refine z_geti fl_RX3_139 (by decide) rfl rfl dX3_step_24 ?_
      rw [h6]
      refine z_iald _ (by decide) rfl rfl (by omega) (by decide) dX3_step_27 ?_
      refine z_bipush dX3_step_28 (by decide) ?_
      rw [e1]
      refine z_icmp_eq 47 (by omega) (by omega) dX3_step_30 (by decide) (fun h_30 => ?_) (fun h_30 => ?_)
      · refine z_aload_n 0 dX3_step_47 rfl rfl ?_
        refine z_dup dX3_step_48 rfl ?_
        refine z_geti fl_RX3_139 (by decide) rfl rfl dX3_step_49 ?_
        rw [h6]
        refine z_iconst dX3_step_52 ?_
        refine z_iadd dX3_step_53 ?_
        refine z_puti fp_RX3_139 (by decide) rfl rfl dX3_step_54 ?_
        refine z_goto 8 dX3_step_57 (by decide) ?_
        exact ih (k + 1) _ (hf.up (i := 6) (by decide)) (zu_at _ _ _ _) (by rw [← hk]; exact (sk_t (by omega) (by unfold blk; exact decide_eq_true (by omega))).symm) (by omega) (by omega)
      · refine z_aload_n 0 dX3_step_33 rfl rfl ?_
        refine z_getr fl_RX3_9 (by decide) rfl rfl dX3_step_34 ?_
        refine z_aload_n 0 dX3_step_37 rfl rfl ?_
        refine z_geti fl_RX3_139 (by decide) rfl rfl dX3_step_38 ?_
        rw [h6]
        refine z_iald _ (by decide) rfl rfl (by omega) (by decide) dX3_step_41 ?_
        refine z_bipush dX3_step_42 (by decide) ?_
        rw [e1]
        refine z_icmp_ne 60 (by omega) (by omega) dX3_step_44 (by decide) (fun h_44 => ?_) (fun h_44 => ?_)
        · exact step_60 hg T hq (by rw [← hk]; exact (sk_f (fun c => by have := c.2; unfold blk at this; rw [decide_eq_true_eq] at this; omega)).symm) hf h6 hn hQ
        · refine z_aload_n 0 dX3_step_47 rfl rfl ?_
          refine z_dup dX3_step_48 rfl ?_
          refine z_geti fl_RX3_139 (by decide) rfl rfl dX3_step_49 ?_
          rw [h6]
          refine z_iconst dX3_step_52 ?_
          refine z_iadd dX3_step_53 ?_
          refine z_puti fp_RX3_139 (by decide) rfl rfl dX3_step_54 ?_
          refine z_goto 8 dX3_step_57 (by decide) ?_
          exact ih (k + 1) _ (hf.up (i := 6) (by decide)) (zu_at _ _ _ _) (by rw [← hk]; exact (sk_t (by omega) (by unfold blk; exact decide_eq_true (by omega))).symm) (by omega) (by omega)
theorem t_step (l : Launch) {g : zG} (hg : zAmOk g) {d : zD} {tp : Nat → Nat} {tl q : Nat} (T : TX d tp tl) (h7 : d 20 7 = q) (hq : q ≤ tl) : zC l g mX3_step 2 [zr g 20] d (fun r d' => r = none ∧ (RF d d' ∧ TK d' tp tl q)) := by
  refine zC_of (L := [(0, _)]) mk_X3_step (Nat.le_of_ble_eq_true rfl) hg rfl (fun x => ?_)
  refine z_aload_n 0 dX3_step_0 rfl rfl ?_
  refine z_aload_n 0 dX3_step_1 rfl rfl ?_
  refine z_geti fl_RX3_44 (by decide) rfl rfl dX3_step_2 ?_
  rw [h7]
  refine z_puti fp_RX3_139 (by decide) rfl rfl dX3_step_5 ?_
  exact lp_step (d0 := d) hg T hq (by omega) (fun d' a1 a2 => ⟨rfl, a1, a2⟩) (tl + 1) q _ (RF.rf.up (i := 6) (by decide)) (zu_at _ _ _ _) rfl hq (by omega)
theorem t_refuse (l : Launch) {g : zG} (hg : zAmOk g) {d : zD} {k s : Nat} (h6 : d 20 6 = s) : zC l g mX3_refuse 1 [zr g 20, zi (k : Int)] d (fun r d' => r = some (zi (zb false)) ∧ d' = zu d 20 4 ((k + 8 * s : Nat) : Int)) := by
  refine zC_of (L := [(0, _), (1, _)]) mk_X3_refuse (Nat.le_of_ble_eq_true rfl) hg rfl (fun x => ?_)
  refine z_aload_n 0 dX3_refuse_0 rfl rfl ?_
  refine z_iload_n 1 dX3_refuse_1 rfl rfl ?_
  refine z_bipush dX3_refuse_2 (by decide) ?_
  refine z_aload_n 0 dX3_refuse_4 rfl rfl ?_
  refine z_geti fl_RX3_139 (by decide) rfl rfl dX3_refuse_5 ?_
  rw [h6]
  refine z_imul dX3_refuse_8 ?_
  refine z_iadd dX3_refuse_9 ?_
  refine z_top ((k + 8 * s : Nat) : Int) (by omega) ?_
  refine z_puti fp_RX3_41 (by decide) rfl rfl dX3_refuse_10 ?_
  refine z_iconst dX3_refuse_13 ?_
  exact z_bret (b := false) rfl dX3_refuse_14 (⟨rfl, rfl⟩)
theorem t_isSign (l : Launch) {g : zG} (hg : zAmOk g) {d : zD} {tp : Nat → Nat} {tl p c : Nat} (K : TK d tp tl p) (hc : c < 256) : zC l g mX3_isSign 1 [zr g 20, zi (c : Int)] d (zpu (zi (zb (isS tp tl p c))) d) := by
  obtain ⟨T, hp, k1, k2, k3, k4, k5⟩ := id K
  have hk4 := kd_le tp tl p
  refine zC_of (L := [(0, _), (1, _)]) mk_X3_isSign (Nat.le_of_ble_eq_true rfl) hg rfl (fun x => ?_)
  refine z_aload_n 0 dX3_isSign_0 rfl rfl ?_
  refine z_geti fl_RX3_50 (by decide) rfl rfl dX3_isSign_1 ?_
  refine z_iconst dX3_isSign_4 ?_
  rw [k1]
  refine z_icmp_ne 20 (by omega) (by omega) dX3_isSign_5 (by decide) (fun h_5 => ?_) (fun h_5 => ?_)
  · refine z_iconst dX3_isSign_20 ?_
    exact z_bret (b := false) rfl dX3_isSign_21 (zret_b (by unfold isS; exact (decide_eq_false (by omega)).symm))
  · have h3 : kd tp tl p = 3 := by omega
    have hsl : sk tp tl p < tl := by
      rcases Nat.lt_or_ge (sk tp tl p) tl with z | z
      · exact z
      · rw [kd, if_pos z] at h3; cases h3
    have hb := (T.2.2 _ hsl).2
    refine z_aload_n 0 dX3_isSign_8 rfl rfl ?_
    refine z_geti fl_RX3_124 (by decide) rfl rfl dX3_isSign_9 ?_
    refine z_iload_n 1 dX3_isSign_12 rfl rfl ?_
    rw [k5 h3]
    refine z_icmp_ne 20 (by omega) (by omega) dX3_isSign_13 (by decide) (fun h_13 => ?_) (fun h_13 => ?_)
    · refine z_iconst dX3_isSign_20 ?_
      exact z_bret (b := false) rfl dX3_isSign_21 (zret_b (by unfold isS; exact (decide_eq_false (by omega)).symm))
    · refine z_iconst dX3_isSign_16 ?_
      refine z_goto 21 dX3_isSign_17 (by decide) ?_
      exact z_bret (b := true) rfl dX3_isSign_21 (zret_b (by unfold isS; exact (decide_eq_true (by omega)).symm))
theorem lp_isWord {l : Launch} {x : zX} {g : zG} {n : Nat} {Q : Option Value → zD → Prop} {d : zD} {adK adV : Nat → Nat} {tp : Nat → Nat} {tl p i : Nat} (hg : zAmOk g) (hs : zStr g adK adV) (K : TK d tp tl p) (hi : i < 6) (hk1 : kd tp tl p = 1) (hl : en tp tl p - sk tp tl p = sL i) (hn : 7 < n) (hQ : Q (some (zi (zb (isW tp tl p i)))) d) : ∀ r k, (∀ j, j < k → tp (sk tp tl p + j) = sC i j) → k ≤ sL i → sL i - k < r → zV l x g mX3_isWord n Q 28 [(0, zr g 20), (1, zs (adK i)), (2, zi (k : Int))] [] d := by
  obtain ⟨T, hp, k1, k2, k3, k4, k5⟩ := id K
  obtain ⟨s1, s2, s3⟩ := sC_ok i hi
  have he := en_le (tp := tp) hp
  intro r
  induction r with
  | zero => intro k hd hk hr; omega
  | succ r ih =>
    intro k hd hk hr
    refine z_iload_n 2 dX3_isWord_28 rfl rfl ?_
    refine z_aloads_n 1 dX3_isWord_29 rfl rfl ?_
    refine z_cvs hs hi (t_slen l hg hs d hi) mk_J0_length_8abf5 mi_J0_length_8abf5 ml_RX3_171 rfl (by omega) rfl rfl (Nat.le_of_ble_eq_true rfl) dX3_isWord_30 (zpure ?_)
    refine z_icmp_ge 63 (by omega) (by omega) dX3_isWord_33 (by decide) (fun h_33 => ?_) (fun h_33 => ?_)
    · skip
      refine z_iconst dX3_isWord_63 ?_
      refine z_bret (b := true) rfl dX3_isWord_64 ?_
      have e : isW tp tl p i = true := by
        unfold isW
        rw [Bool.and_eq_true, decide_eq_true_eq, List.all_eq_true]
        exact ⟨⟨hk1, hl⟩, fun j hj => decide_eq_true (hd j (by have := List.mem_range.mp hj; omega))⟩
      rw [e] at hQ
      exact hQ
    · obtain ⟨e1, e2⟩ := T.2.2 (sk tp tl p + k) (by omega)
      obtain ⟨c1, c2, c3⟩ := s3 k (by omega)
      refine z_aload_n 0 dX3_isWord_36 rfl rfl ?_
      refine z_getr fl_RX3_9 (by decide) rfl rfl dX3_isWord_37 ?_
      refine z_aload_n 0 dX3_isWord_40 rfl rfl ?_
      refine z_geti fl_RX3_139 (by decide) rfl rfl dX3_isWord_41 ?_
      refine z_iload_n 2 dX3_isWord_44 rfl rfl ?_
      rw [k2]
      refine z_iadd dX3_isWord_45 ?_
      refine z_iald (sk tp tl p + k) (by decide) rfl (by omega) (by have := T.2.1; omega) (by decide) dX3_isWord_46 ?_
      rw [e1]
      refine z_aloads_n 1 dX3_isWord_47 rfl rfl ?_
      refine z_iload_n 2 dX3_isWord_48 rfl rfl ?_
      refine z_cvs hs hi (t_schar l hg hs d hi (k := k) (by omega)) mk_J0_charAt_5068e mi_J0_charAt_5068e ml_RX3_176 rfl (by omega) rfl rfl (Nat.le_of_ble_eq_true rfl) dX3_isWord_49 (zpure ?_)
      refine z_icmp_eq 57 (by omega) (by omega) dX3_isWord_52 (by decide) (fun h_52 => ?_) (fun h_52 => ?_)
      · skip
        refine z_iinc 2 (L' := [(0, _), (1, _), (2, _)]) dX3_isWord_57 (by decide) rfl rfl rfl ?_
        refine z_goto 28 dX3_isWord_60 (by decide) ?_
        exact ih (k + 1) (fun j hj => by
          by_cases e : j = k
          · subst e; omega
          · exact hd j (by omega)) (by omega) (by omega)
      · skip
        refine z_iconst dX3_isWord_55 ?_
        refine z_bret (b := false) rfl dX3_isWord_56 ?_
        have e : isW tp tl p i = false := by
          cases hc : isW tp tl p i with
          | false => rfl
          | true =>
            unfold isW at hc
            rw [Bool.and_eq_true, List.all_eq_true] at hc
            have := of_decide_eq_true (hc.2 k (List.mem_range.mpr (by omega)))
            omega
        rw [e] at hQ
        exact hQ
theorem t_isWord (l : Launch) {g : zG} (hg : zAmOk g) {adK adV : Nat → Nat} (hs : zStr g adK adV) {d : zD} {tp : Nat → Nat} {tl p i : Nat} (K : TK d tp tl p) (hi : i < 6) : zC l g mX3_isWord 8 [zr g 20, zs (adK i)] d (zpu (zi (zb (isW tp tl p i))) d) := by
  obtain ⟨T, hp, k1, k2, k3, k4, k5⟩ := id K
  obtain ⟨s1, s2, s3⟩ := sC_ok i hi
  have he := en_le (tp := tp) hp
  have hk4 := kd_le tp tl p
  have t2 := T.2.1
  refine zC_of (L := [(0, _), (1, _)]) mk_X3_isWord (Nat.le_of_ble_eq_true rfl) hg rfl (fun x => ?_)
  refine z_aload_n 0 dX3_isWord_0 rfl rfl ?_
  refine z_geti fl_RX3_50 (by decide) rfl rfl dX3_isWord_1 ?_
  refine z_iconst dX3_isWord_4 ?_
  rw [k1]
  refine z_icmp_ne 24 (by omega) (by omega) dX3_isWord_5 (by decide) (fun h_5 => ?_) (fun h_5 => ?_)
  · skip
    refine z_iconst dX3_isWord_24 ?_
    exact z_bret (b := false) rfl dX3_isWord_25 (zret_b (by unfold isW; rw [decide_eq_false (by omega)]; rfl))
  · skip
    refine z_aload_n 0 dX3_isWord_8 rfl rfl ?_
    refine z_geti fl_RX3_44 (by decide) rfl rfl dX3_isWord_9 ?_
    refine z_aload_n 0 dX3_isWord_12 rfl rfl ?_
    refine z_geti fl_RX3_139 (by decide) rfl rfl dX3_isWord_13 ?_
    refine z_isub dX3_isWord_16 ?_
    rw [k3, k2]
    refine z_aloads_n 1 dX3_isWord_17 rfl rfl ?_
    refine z_cvs hs hi (t_slen l hg hs d hi) mk_J0_length_8abf5 mi_J0_length_8abf5 ml_RX3_171 rfl (by omega) rfl rfl (Nat.le_of_ble_eq_true rfl) dX3_isWord_18 (zpure ?_)
    refine z_icmp_eq 26 (by omega) (by omega) dX3_isWord_21 (by decide) (fun h_21 => ?_) (fun h_21 => ?_)
    · skip
      refine z_iconst dX3_isWord_26 ?_
      refine z_istore_n (L' := [(0, _), (1, _), (2, _)]) dX3_isWord_27 rfl (by decide) rfl rfl ?_
      exact lp_isWord hg hs K hi (by omega) (by omega) (by omega) ⟨rfl, rfl⟩ (sL i + 1) 0 (fun j hj => absurd hj (by omega)) (by omega) (by omega)
    · skip
      refine z_iconst dX3_isWord_24 ?_
      exact z_bret (b := false) rfl dX3_isWord_25 (zret_b (by unfold isW; rw [decide_eq_false (by omega)]; rfl))
