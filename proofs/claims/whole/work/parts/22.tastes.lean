/-! how much a voter likes a form: Tastes -/
def wsumN (h : Hl) (v f : Nat) : Nat → Int
  | 0 => 0
  | c + 1 => wsumN h v f c + (if f.testBit c = true then hwe h (8 * v + c) else 0)
def jsumN (h : Hl) (v f : Nat) : Nat → Int
  | 0 => 0
  | j + 1 => jsumN h v f j + (if hjv h j = v ∧ f &&& hjs h j = hjs h j then hjw h j else 0)
def likeF (h : Hl) (v f : Nat) : Int := wsumN h v f 8 + jsumN h v f (hJ h)
theorem wsum_b {h : Hl} (w : Wf h) {v f : Nat} (hv : v < hV h) : ∀ c : Nat, c ≤ 8 → -9 * (c : Int) ≤ wsumN h v f c ∧ wsumN h v f c ≤ 9 * (c : Int)
  | 0, _ => by simp [wsumN]
  | c + 1, hc => by
    have ih := wsum_b w (f := f) hv c (by omega)
    have := w.2.2.2.2.2.2.2.1 (8 * v + c) (by omega)
    rw [wsumN]
    split <;> omega
theorem jsum_b {h : Hl} (w : Wf h) {v f : Nat} : ∀ j : Nat, j ≤ hJ h → -9 * (j : Int) ≤ jsumN h v f j ∧ jsumN h v f j ≤ 9 * (j : Int)
  | 0, _ => by simp [jsumN]
  | j + 1, hj => by
    have ih := jsum_b w (v := v) (f := f) j (by omega)
    have := (w.2.2.2.2.2.2.2.2 j (by omega)).2.2
    rw [jsumN]
    split <;> omega
theorem like_b {h : Hl} (w : Wf h) {v : Nat} (f : Nat) (hv : v < hV h) : -126 ≤ likeF h v f ∧ likeF h v f ≤ 126 := by
  have a := wsum_b w (f := f) hv 8 (by omega)
  have b := jsum_b w (v := v) (f := f) (hJ h) (Nat.le_refl _)
  have c := w.2.2.2.2.1
  unfold likeF
  omega
theorem wsum_lo {h : Hl} {v c l : Nat} : ∀ k, k ≤ c → wsumN h v (2 ^ c + l) k = wsumN h v l k
  | 0, _ => rfl
  | k + 1, hk => by rw [wsumN, wsumN, wsum_lo k (by omega), Nat.testBit_two_pow_add_gt (by omega)]
theorem wsum_hi {h : Hl} {v c l : Nat} (hl : l < 2 ^ c) : wsumN h v l (c + 1) = wsumN h v l c := by
  rw [wsumN, Nat.testBit_lt_two_pow hl]; simp
theorem wsum_add {h : Hl} {v c l : Nat} (hl : l < 2 ^ c) : wsumN h v (2 ^ c + l) (c + 1) = wsumN h v l (c + 1) + hwe h (8 * v + c) := by
  rw [wsum_hi hl, wsumN, wsum_lo c (Nat.le_refl _), Nat.testBit_two_pow_add_eq, Nat.testBit_lt_two_pow hl]; simp
def RowFr (v : Nat) (d0 d : zD) : Prop := zF [25] d0 d ∧ ∀ i, (i < 256 * v ∨ 256 * v + 256 ≤ i) → d 25 i = d0 25 i
theorem RowFr.rf {v : Nat} {d : zD} : RowFr v d d := ⟨zF.rf, fun _ _ => rfl⟩
theorem RowFr.up {v : Nat} {a b : zD} (h : RowFr v a b) {i : Nat} {x : Int} (hi : 256 * v ≤ i ∧ i < 256 * v + 256) : RowFr v a (zu b 25 i x) :=
  ⟨h.1.up (by decide), fun j hj => by rw [zu_row, if_neg (by omega)]; exact h.2 j hj⟩
theorem RowFr.tr {v : Nat} {a b c : zD} (h : RowFr v a b) (h2 : RowFr v b c) : RowFr v a c := ⟨h.1.tr h2.1, fun i hi => (h2.2 i hi).trans (h.2 i hi)⟩
/-- the class's table of likings -/
def LK (d : zD) (h : Hl) : Prop := ∀ v f, v < hV h → f < 256 → d 25 (256 * v + f) = likeF h v f
theorem LK.of {d d' : zD} {h : Hl} (H : LK d h) (e : d' 25 = d 25) : LK d' h := fun v f hv hf => by rw [e]; exact H v f hv hf
theorem lp_takeJoint {l : Launch} {x : zX} {g : zG} {n : Nat} {Q : Option Value → zD → Prop} {d0 : zD} {v S : Nat} {wt : Int} (hg : zAmOk g) (hv : v < 9) (hS : S < 256) (hQ : ∀ d, RowFr v d0 d → (∀ f, f < 256 → d 25 (256 * v + f) = d0 25 (256 * v + f) + (if f &&& S = S then wt else 0)) → Q none d) : ∀ r k d, RowFr v d0 d → (∀ f, f < k → d 25 (256 * v + f) = d0 25 (256 * v + f) + (if f &&& S = S then wt else 0)) → (∀ f, k ≤ f → d 25 (256 * v + f) = d0 25 (256 * v + f)) → k ≤ 256 → 256 - k < r → zV l x g mX5_takeJoint n Q 3 [(0, zr g 24), (1, zi ((v : Int) * 256)), (2, zi (S : Int)), (3, zi wt), (4, zi (k : Int))] [] d := by
  intro r
  induction r with
  | zero => intro k d hf hd hd2 hk hr; omega
  | succ r ih =>
    intro k d hf hd hd2 hk hr
    have hle : k &&& S ≤ k := Nat.and_le_left
    refine z_iload 4 dX5_takeJoint_3 rfl ?_
    refine z_sipush dX5_takeJoint_5 (by decide) ?_
    refine z_icmp_ge 38 (by omega) (by omega) dX5_takeJoint_8 (by decide) (fun h_8 => ?_) (fun h_8 => ?_)
    · exact z_vret rfl dX5_takeJoint_38 (hQ d hf (fun f hf1 => hd f (by omega)))
    · refine z_iload 4 dX5_takeJoint_11 rfl ?_
      refine z_iload_n 2 dX5_takeJoint_13 rfl rfl ?_
      refine z_iand _ (zand _ _) dX5_takeJoint_14 ?_
      refine z_iload_n 2 dX5_takeJoint_15 rfl rfl ?_
      refine z_icmp_ne 32 (by omega) (by omega) dX5_takeJoint_16 (by decide) (fun h_16 => ?_) (fun h_16 => ?_)
      · refine z_iinc 4 (L' := [(0, _), (1, _), (2, _), (3, _), (4, _)]) dX5_takeJoint_32 (by decide) rfl rfl rfl ?_
        refine z_goto 3 dX5_takeJoint_35 (by decide) ?_
        refine ih (k + 1) _ hf (fun f hf1 => ?_) (fun f hf1 => hd2 f (by omega)) (by omega) (by omega)
        by_cases e : f = k
        · subst e; rw [if_neg (by omega), hd2 f (Nat.le_refl _)]; omega
        · exact hd f (by omega)
      · refine z_aload_n 0 dX5_takeJoint_19 rfl rfl ?_
        refine z_getr fl_RX5_9 (by decide) rfl rfl dX5_takeJoint_20 ?_
        refine z_iload_n 1 dX5_takeJoint_23 rfl rfl ?_
        refine z_iload 4 dX5_takeJoint_24 rfl ?_
        refine z_iadd dX5_takeJoint_26 ?_
        refine z_dup2 dX5_takeJoint_27 rfl rfl ?_
        refine z_iald (256 * v + k) (by decide) rfl (by omega) (by omega) (by decide) dX5_takeJoint_28 ?_
        refine z_iload_n 3 dX5_takeJoint_29 rfl rfl ?_
        refine z_iadd dX5_takeJoint_30 ?_
        refine z_iast (256 * v + k) (by decide) rfl (by omega) (by omega) (by decide) dX5_takeJoint_31 ?_
        refine z_iinc 4 (L' := [(0, _), (1, _), (2, _), (3, _), (4, _)]) dX5_takeJoint_32 (by decide) rfl rfl rfl ?_
        refine z_goto 3 dX5_takeJoint_35 (by decide) ?_
        refine ih (k + 1) _ (hf.up (by omega)) (fun f hf1 => ?_) (fun f hf1 => by rw [zu_row, if_neg (by omega)]; exact hd2 f (by omega)) (by omega) (by omega)
        rw [zu_row]
        split
        · rename_i e0
          have e : f = k := by omega
          subst e; rw [if_pos (by omega), hd2 f (Nat.le_refl _)]
        · exact hd f (by omega)
theorem t_takeJoint (l : Launch) {g : zG} (hg : zAmOk g) {d : zD} {v S : Nat} {wt : Int} (hv : v < 9) (hS : S < 256) : zC l g mX5_takeJoint 1 [zr g 24, zi ((v : Int) * 256), zi (S : Int), zi wt] d (fun r d' => r = none ∧ (RowFr v d d' ∧ ∀ f, f < 256 → d' 25 (256 * v + f) = d 25 (256 * v + f) + (if f &&& S = S then wt else 0))) := by
  refine zC_of (L := [(0, _), (1, _), (2, _), (3, _)]) mk_X5_takeJoint (Nat.le_of_ble_eq_true rfl) hg rfl (fun x => ?_)
  refine z_iload_n 2 dX5_takeJoint_0 rfl rfl ?_
  refine z_istore (L' := [(0, _), (1, _), (2, _), (3, _), (4, _)]) dX5_takeJoint_1 (by decide) rfl rfl ?_
  refine lp_takeJoint hg hv hS (fun d' h1 h2 => ⟨rfl, h1, h2⟩) 257 S d RowFr.rf (fun f hf => ?_) (fun f hf => rfl) (by omega) (by omega)
  have hle : f &&& S ≤ f := Nat.and_le_left
  rw [if_neg (by omega)]; omega
theorem lp3_takeVoter {l : Launch} {x : zX} {g : zG} {n : Nat} {Q : Option Value → zD → Prop} {d0 : zD} {h : Hl} {v : Nat} (hg : zAmOk g) (w : Wf h) (H : HC 2 d0 h) (hv : v < hV h) (hn : 1 < n) (hQ : ∀ d, RowFr v d0 d → (∀ f, f < 256 → d 25 (256 * v + f) = likeF h v f) → Q none d) : ∀ r k d, RowFr v d0 d → (∀ f, f < 256 → d 25 (256 * v + f) = wsumN h v f 8 + jsumN h v f k) → k ≤ hJ h → hJ h - k < r → zV l x g mX5_takeVoter n Q 90 [(0, zr g 24), (1, zi (v : Int)), (2, zi ((v : Int) * 256)), (3, zi (k : Int))] [] d := by
  have w3 := w.2.2.2.1
  have w4 := w.2.2.2.2.1
  intro r
  induction r with
  | zero => intro k d hf hd hk hr; omega
  | succ r ih =>
    intro k d hf hd hk hr
    have H' : HC 2 d h := hf.1.HC (by decide) H
    have h5 : d 2 5 = hJ h := H'.1.2.2.2.2.2
    refine z_iload_n 3 dX5_takeVoter_90 rfl rfl ?_
    refine z_aload_n 0 dX5_takeVoter_91 rfl rfl ?_
    refine z_getr fl_RX5_15 (by decide) rfl rfl dX5_takeVoter_92 ?_
    refine z_geti fl_RX5_32 (by decide) rfl rfl dX5_takeVoter_95 ?_
    rw [h5]
    refine z_icmp_ge 143 (by omega) (by omega) dX5_takeVoter_98 (by decide) (fun h_98 => ?_) (fun h_98 => ?_)
    · exact z_vret rfl dX5_takeVoter_143 (hQ d hf (fun f hf1 => by rw [hd f hf1, likeF, show k = hJ h by omega]))
    · obtain ⟨e1, e2, e3⟩ : d 8 k = hjv h k ∧ d 9 k = hjs h k ∧ d 10 k = hjw h k := H'.2.2.2 k (by omega)
      obtain ⟨j1, j2, j3⟩ := w.2.2.2.2.2.2.2.2 k (by omega)
      refine z_aload_n 0 dX5_takeVoter_101 rfl rfl ?_
      refine z_getr fl_RX5_15 (by decide) rfl rfl dX5_takeVoter_102 ?_
      refine z_getr fl_RX5_35 (by decide) rfl rfl dX5_takeVoter_105 ?_
      refine z_iload_n 3 dX5_takeVoter_108 rfl rfl ?_
      refine z_iald _ (by decide) rfl rfl (by omega) (by decide) dX5_takeVoter_109 ?_
      refine z_iload_n 1 dX5_takeVoter_110 rfl rfl ?_
      rw [e1]
      refine z_icmp_ne 137 (by omega) (by omega) dX5_takeVoter_111 (by decide) (fun h_111 => ?_) (fun h_111 => ?_)
      · refine z_iinc 3 (L' := [(0, _), (1, _), (2, _), (3, _)]) dX5_takeVoter_137 (by decide) rfl rfl rfl ?_
        refine z_goto 90 dX5_takeVoter_140 (by decide) ?_
        refine ih (k + 1) _ hf (fun f hf1 => ?_) (by omega) (by omega)
        rw [hd f hf1, jsumN, if_neg (by omega)]; omega
      · refine z_aload_n 0 dX5_takeVoter_114 rfl rfl ?_
        refine z_iload_n 2 dX5_takeVoter_115 rfl rfl ?_
        refine z_aload_n 0 dX5_takeVoter_116 rfl rfl ?_
        refine z_getr fl_RX5_15 (by decide) rfl rfl dX5_takeVoter_117 ?_
        refine z_getr fl_RX5_38 (by decide) rfl rfl dX5_takeVoter_120 ?_
        refine z_iload_n 3 dX5_takeVoter_123 rfl rfl ?_
        refine z_iald _ (by decide) rfl rfl (by omega) (by decide) dX5_takeVoter_124 ?_
        rw [e2]
        refine z_aload_n 0 dX5_takeVoter_125 rfl rfl ?_
        refine z_getr fl_RX5_15 (by decide) rfl rfl dX5_takeVoter_126 ?_
        refine z_getr fl_RX5_41 (by decide) rfl rfl dX5_takeVoter_129 ?_
        refine z_iload_n 3 dX5_takeVoter_132 rfl rfl ?_
        refine z_iald _ (by decide) rfl rfl (by omega) (by decide) dX5_takeVoter_133 ?_
        rw [e3]
        refine z_cv (t_takeJoint l hg (d := d) (v := v) (S := hjs h k) (wt := hjw h k) (by omega) (by omega)) mk_X5_takeJoint mi_X5_takeJoint ml_RX5_44 (by omega) (by decide) rfl rfl rfl rfl (Nat.le_of_ble_eq_true rfl) dX5_takeVoter_134 (zvoid fun d_134 q_134 => ?_)
        refine z_iinc 3 (L' := [(0, _), (1, _), (2, _), (3, _)]) dX5_takeVoter_137 (by decide) rfl rfl rfl ?_
        refine z_goto 90 dX5_takeVoter_140 (by decide) ?_
        refine ih (k + 1) _ (hf.tr q_134.1) (fun f hf1 => ?_) (by omega) (by omega)
        rw [q_134.2 f hf1, hd f hf1, jsumN]
        by_cases e : f &&& hjs h k = hjs h k
        · rw [if_pos e, if_pos ⟨by omega, e⟩]; omega
        · rw [if_neg e, if_neg (fun c => e c.2)]; omega
theorem lp2_takeVoter {l : Launch} {x : zX} {g : zG} {n : Nat} {Q : Option Value → zD → Prop} {d0 : zD} {h : Hl} {v c : Nat} (hg : zAmOk g) (w : Wf h) (hv : v < hV h) (hc : c < 8) (hQ : ∀ d, RowFr v d0 d → (∀ f, f < 2 ^ (c + 1) → d 25 (256 * v + f) = wsumN h v f (c + 1)) → zV l x g mX5_takeVoter n Q 82 [(0, zr g 24), (1, zi (v : Int)), (2, zi ((v : Int) * 256)), (3, zi (c : Int))] [] d) : ∀ (r k : Nat) (d : zD), RowFr v d0 d → (∀ f, f < 2 ^ c + k → d 25 (256 * v + f) = wsumN h v f (c + 1)) → k ≤ 2 ^ c → 2 ^ c - k < r → zV l x g mX5_takeVoter n Q 45 [(0, zr g 24), (1, zi (v : Int)), (2, zi ((v : Int) * 256)), (3, zi (c : Int)), (4, zi ((1 * 2 ^ c : Nat) : Int)), (5, zi (hwe h (8 * v + c))), (6, zi (k : Int))] [] d := by
  have w3 := w.2.2.2.1
  have hp : 2 ^ c ≤ 128 := Nat.pow_le_pow_right (n := 2) (by decide) (show c ≤ 7 by omega)
  have hp1 : 2 ^ (c + 1) = 2 ^ c + 2 ^ c := by rw [Nat.pow_succ]; omega
  intro r
  induction r with
  | zero => intro k d hf hd hk hr; omega
  | succ r ih =>
    intro k d hf hd hk hr
    refine z_iload 6 dX5_takeVoter_45 rfl ?_
    refine z_iload 4 dX5_takeVoter_47 rfl ?_
    refine z_icmp_ge 82 (by omega) (by omega) dX5_takeVoter_49 (by decide) (fun h_49 => ?_) (fun h_49 => ?_)
    · refine z_sub (L' := [(0, _), (1, _), (2, _), (3, _)]) [0, 1, 2, 3] rfl ?_
      exact hQ d hf (fun f hf1 => hd f (by omega))
    · refine z_aload_n 0 dX5_takeVoter_52 rfl rfl ?_
      refine z_getr fl_RX5_9 (by decide) rfl rfl dX5_takeVoter_53 ?_
      refine z_iload_n 2 dX5_takeVoter_56 rfl rfl ?_
      refine z_iload 4 dX5_takeVoter_57 rfl ?_
      refine z_iadd dX5_takeVoter_59 ?_
      refine z_iload 6 dX5_takeVoter_60 rfl ?_
      refine z_iadd dX5_takeVoter_62 ?_
      refine z_aload_n 0 dX5_takeVoter_63 rfl rfl ?_
      refine z_getr fl_RX5_9 (by decide) rfl rfl dX5_takeVoter_64 ?_
      refine z_iload_n 2 dX5_takeVoter_67 rfl rfl ?_
      refine z_iload 6 dX5_takeVoter_68 rfl ?_
      refine z_iadd dX5_takeVoter_70 ?_
      refine z_iald (256 * v + k) (by decide) rfl (by omega) (by omega) (by decide) dX5_takeVoter_71 ?_
      refine z_iload 5 dX5_takeVoter_72 rfl ?_
      refine z_iadd dX5_takeVoter_74 ?_
      refine z_iast (256 * v + 2 ^ c + k) (by decide) rfl (by omega) (by omega) (by decide) dX5_takeVoter_75 ?_
      refine z_iinc 6 (L' := [(0, _), (1, _), (2, _), (3, _), (4, _), (5, _), (6, _)]) dX5_takeVoter_76 (by decide) rfl rfl rfl ?_
      refine z_goto 45 dX5_takeVoter_79 (by decide) ?_
      refine ih (k + 1) _ (hf.up (by omega)) (fun f hf1 => ?_) (by omega) (by omega)
      rw [zu_row]
      split
      · rename_i e
        have e2 : f = 2 ^ c + k := by omega
        rw [e2, wsum_add (by omega), hd k (by omega)]
      · exact hd f (by omega)
theorem lp1_takeVoter {l : Launch} {x : zX} {g : zG} {n : Nat} {Q : Option Value → zD → Prop} {d0 : zD} {h : Hl} {v : Nat} (hg : zAmOk g) (w : Wf h) (H : HC 2 d0 h) (hv : v < hV h) (hQ : ∀ d, RowFr v d0 d → (∀ f, f < 256 → d 25 (256 * v + f) = wsumN h v f 8) → zV l x g mX5_takeVoter n Q 88 [(0, zr g 24), (1, zi (v : Int)), (2, zi ((v : Int) * 256))] [] d) : ∀ r k d, RowFr v d0 d → (∀ f, f < 2 ^ k → d 25 (256 * v + f) = wsumN h v f k) → k ≤ 8 → 8 - k < r → zV l x g mX5_takeVoter n Q 15 [(0, zr g 24), (1, zi (v : Int)), (2, zi ((v : Int) * 256)), (3, zi (k : Int))] [] d := by
  have w3 := w.2.2.2.1
  intro r
  induction r with
  | zero => intro k d hf hd hk hr; omega
  | succ r ih =>
    intro k d hf hd hk hr
    have H' : HC 2 d h := hf.1.HC (by decide) H
    refine z_iload_n 3 dX5_takeVoter_15 rfl rfl ?_
    refine z_bipush dX5_takeVoter_16 (by decide) ?_
    refine z_icmp_ge 88 (by omega) (by omega) dX5_takeVoter_18 (by decide) (fun h_18 => ?_) (fun h_18 => ?_)
    · refine z_sub (L' := [(0, _), (1, _), (2, _)]) [0, 1, 2] rfl ?_
      exact hQ d hf (by rw [show k = 8 by omega] at hd; exact hd)
    · have hp0 : 0 < 2 ^ k := Nat.two_pow_pos k
      have hp : 2 ^ k ≤ 128 := Nat.pow_le_pow_right (n := 2) (by decide) (show k ≤ 7 by omega)
      have e : d 7 (8 * v + k) = hwe h (8 * v + k) := H'.2.2.1 (8 * v + k) (by omega)
      refine z_iconst dX5_takeVoter_21 ?_
      refine z_iload_n 3 dX5_takeVoter_22 rfl rfl ?_
      refine z_ishl _ (zshl (s := 1) (m := k) (by omega) (by omega)) dX5_takeVoter_23 ?_
      refine z_istore (L' := [(0, _), (1, _), (2, _), (3, _), (4, _)]) dX5_takeVoter_24 (by decide) rfl rfl ?_
      refine z_aload_n 0 dX5_takeVoter_26 rfl rfl ?_
      refine z_getr fl_RX5_15 (by decide) rfl rfl dX5_takeVoter_27 ?_
      refine z_getr fl_RX5_29 (by decide) rfl rfl dX5_takeVoter_30 ?_
      refine z_iload_n 1 dX5_takeVoter_33 rfl rfl ?_
      refine z_bipush dX5_takeVoter_34 (by decide) ?_
      refine z_imul dX5_takeVoter_36 ?_
      refine z_iload_n 3 dX5_takeVoter_37 rfl rfl ?_
      refine z_iadd dX5_takeVoter_38 ?_
      refine z_iald (8 * v + k) (by decide) rfl (by omega) (by omega) (by decide) dX5_takeVoter_39 ?_
      rw [e]
      refine z_istore (L' := [(0, _), (1, _), (2, _), (3, _), (4, _), (5, _)]) dX5_takeVoter_40 (by decide) rfl rfl ?_
      refine z_iconst dX5_takeVoter_42 ?_
      refine z_istore (L' := [(0, _), (1, _), (2, _), (3, _), (4, _), (5, _), (6, _)]) dX5_takeVoter_43 (by decide) rfl rfl ?_
      refine lp2_takeVoter (c := k) hg w hv (by omega) ?_ (2 ^ k + 1) 0 d hf (fun f hf1 => by rw [wsum_hi (by omega)]; exact hd f (by omega)) (by omega) (by omega)
      intro d' hf' hd'
      refine z_iinc 3 (L' := [(0, _), (1, _), (2, _), (3, _)]) dX5_takeVoter_82 (by decide) rfl rfl rfl ?_
      refine z_goto 15 dX5_takeVoter_85 (by decide) ?_
      exact ih (k + 1) d' hf' hd' (by omega) (by omega)
theorem t_takeVoter (l : Launch) {g : zG} (hg : zAmOk g) {d : zD} {h : Hl} (w : Wf h) (H : HC 2 d h) {v : Nat} (hv : v < hV h) : zC l g mX5_takeVoter 2 [zr g 24, zi (v : Int)] d (fun r d' => r = none ∧ (RowFr v d d' ∧ ∀ f, f < 256 → d' 25 (256 * v + f) = likeF h v f)) := by
  have w3 := w.2.2.2.1
  refine zC_of (L := [(0, _), (1, _)]) mk_X5_takeVoter (Nat.le_of_ble_eq_true rfl) hg rfl (fun x => ?_)
  refine z_iload_n 1 dX5_takeVoter_0 rfl rfl ?_
  refine z_sipush dX5_takeVoter_1 (by decide) ?_
  refine z_imul dX5_takeVoter_4 ?_
  refine z_istore_n (L' := [(0, _), (1, _), (2, _)]) dX5_takeVoter_5 rfl (by decide) rfl rfl ?_
  refine z_aload_n 0 dX5_takeVoter_6 rfl rfl ?_
  refine z_getr fl_RX5_9 (by decide) rfl rfl dX5_takeVoter_7 ?_
  refine z_iload_n 2 dX5_takeVoter_10 rfl rfl ?_
  refine z_iconst dX5_takeVoter_11 ?_
  refine z_iast (256 * v) (by decide) rfl (by omega) (by omega) (by decide) dX5_takeVoter_12 ?_
  refine z_iconst dX5_takeVoter_13 ?_
  refine z_istore_n (L' := [(0, _), (1, _), (2, _), (3, _)]) dX5_takeVoter_14 rfl (by decide) rfl rfl ?_
  refine lp1_takeVoter hg w H hv ?_ 9 0 _ (RowFr.rf.up (by omega)) (fun f hf1 => ?_) (by omega) (by omega)
  · intro d' hf' hd'
    refine z_iconst dX5_takeVoter_88 ?_
    refine z_istore_n (L' := [(0, _), (1, _), (2, _), (3, _)]) dX5_takeVoter_89 rfl (by decide) rfl rfl ?_
    refine lp3_takeVoter hg w H hv (by omega) (fun d' h1 h2 => ⟨rfl, h1, h2⟩) (hJ h + 1) 0 d' hf' (fun f hf1 => ?_) (by omega) (by omega)
    rw [hd' f hf1, jsumN]; omega
  · have e : f = 0 := by omega
    subst e; rw [Nat.add_zero, zu_at]; rfl
theorem lp_takeAll {l : Launch} {x : zX} {g : zG} {n : Nat} {Q : Option Value → zD → Prop} {d0 : zD} {h : Hl} (hg : zAmOk g) (w : Wf h) (H : HC 2 d0 h) (hn : 2 < n) (hQ : ∀ d, zF [25] d0 d → LK d h → Q none d) : ∀ r k d, zF [25] d0 d → (∀ v f, v < k → f < 256 → d 25 (256 * v + f) = likeF h v f) → k ≤ hV h → hV h - k < r → zV l x g mX5_takeAll n Q 2 [(0, zr g 24), (1, zi (k : Int))] [] d := by
  have w3 := w.2.2.2.1
  intro r
  induction r with
  | zero => intro k d hf hd hk hr; omega
  | succ r ih =>
    intro k d hf hd hk hr
    have H' : HC 2 d h := hf.HC (by decide) H
    have h4 : d 2 4 = hV h := H'.1.2.2.2.2.1
    refine z_iload_n 1 dX5_takeAll_2 rfl rfl ?_
    refine z_aload_n 0 dX5_takeAll_3 rfl rfl ?_
    refine z_getr fl_RX5_15 (by decide) rfl rfl dX5_takeAll_4 ?_
    refine z_geti fl_RX5_19 (by decide) rfl rfl dX5_takeAll_7 ?_
    rw [h4]
    refine z_icmp_ge 24 (by omega) (by omega) dX5_takeAll_10 (by decide) (fun h_10 => ?_) (fun h_10 => ?_)
    · exact z_vret rfl dX5_takeAll_24 (hQ d hf (fun v f hv hf1 => hd v f (by omega) hf1))
    · refine z_aload_n 0 dX5_takeAll_13 rfl rfl ?_
      refine z_iload_n 1 dX5_takeAll_14 rfl rfl ?_
      refine z_cv (t_takeVoter l hg w H' (v := k) (by omega)) mk_X5_takeVoter mi_X5_takeVoter ml_RX5_25 (by omega) (by decide) rfl rfl rfl rfl (Nat.le_of_ble_eq_true rfl) dX5_takeAll_15 (zvoid fun d_15 q_15 => ?_)
      refine z_iinc 1 (L' := [(0, _), (1, _)]) dX5_takeAll_18 (by decide) rfl rfl rfl ?_
      refine z_goto 2 dX5_takeAll_21 (by decide) ?_
      refine ih (k + 1) _ (hf.tr q_15.1.1) (fun v f hv hf1 => ?_) (by omega) (by omega)
      by_cases e : v = k
      · subst e; exact q_15.2 f hf1
      · rw [q_15.1.2 _ (by omega)]; exact hd v f (by omega) hf1
theorem t_takeAll (l : Launch) {g : zG} (hg : zAmOk g) {d : zD} {h : Hl} (w : Wf h) (H : HC 2 d h) : zC l g mX5_takeAll 3 [zr g 24] d (fun r d' => r = none ∧ (zF [25] d d' ∧ LK d' h)) := by
  refine zC_of (L := [(0, _)]) mk_X5_takeAll (Nat.le_of_ble_eq_true rfl) hg rfl (fun x => ?_)
  refine z_iconst dX5_takeAll_0 ?_
  refine z_istore_n (L' := [(0, _), (1, _)]) dX5_takeAll_1 rfl (by decide) rfl rfl ?_
  exact lp_takeAll hg w H (by omega) (fun d' h1 h2 => ⟨rfl, h1, h2⟩) (hV h + 1) 0 d zF.rf (fun v f hv => absurd hv (by omega)) (by omega) (by omega)
def prefB (h : Hl) (v f o : Nat) : Bool := decide (likeF h v o < likeF h v f)
def prefN (h : Hl) (f o : Nat) : Nat → Nat
  | 0 => 0
  | v + 1 => prefN h f o v + (if prefB h v f o = true then 1 else 0)
def prefF (h : Hl) (f o : Nat) : Nat := prefN h f o (hV h)
theorem prefN_le (h : Hl) (f o : Nat) : ∀ k, prefN h f o k ≤ k
  | 0 => Nat.le_refl _
  | k + 1 => by have := prefN_le h f o k; rw [prefN]; split <;> omega
theorem prefN_self (h : Hl) (f : Nat) : ∀ k, prefN h f f k = 0
  | 0 => rfl
  | k + 1 => by rw [prefN, prefN_self h f k]; simp [prefB]
theorem t_likingOf (l : Launch) {g : zG} (hg : zAmOk g) {d : zD} {h : Hl} (w : Wf h) (K : LK d h) {v f : Nat} (hv : v < hV h) (hf : f < 256) : zC l g mX5_likingOf 1 [zr g 24, zi (v : Int), zi (f : Int)] d (zpu (zi (likeF h v f)) d) := by
  have w3 := w.2.2.2.1
  refine zC_of (L := [(0, _), (1, _), (2, _)]) mk_X5_likingOf (Nat.le_of_ble_eq_true rfl) hg rfl (fun x => ?_)
  refine z_aload_n 0 dX5_likingOf_0 rfl rfl ?_
  refine z_getr fl_RX5_9 (by decide) rfl rfl dX5_likingOf_1 ?_
  refine z_iload_n 1 dX5_likingOf_4 rfl rfl ?_
  refine z_sipush dX5_likingOf_5 (by decide) ?_
  refine z_imul dX5_likingOf_8 ?_
  refine z_iload_n 2 dX5_likingOf_9 rfl rfl ?_
  refine z_iadd dX5_likingOf_10 ?_
  refine z_iald (256 * v + f) (by decide) rfl (by omega) (by omega) (by decide) dX5_likingOf_11 ?_
  exact z_iret rfl dX5_likingOf_12 (zret_i (K v f hv hf))
theorem t_isPreferred (l : Launch) {g : zG} (hg : zAmOk g) {d : zD} {h : Hl} (w : Wf h) (K : LK d h) {v f o : Nat} (hv : v < hV h) (hf : f < 256) (ho : o < 256) : zC l g mX5_isPreferred 1 [zr g 24, zi (v : Int), zi (f : Int), zi (o : Int)] d (zpu (zi (zb (prefB h v f o))) d) := by
  have w3 := w.2.2.2.1
  have b1 := like_b w f hv
  have b2 := like_b w o hv
  refine zC_of (L := [(0, _), (1, _), (2, _), (3, _)]) mk_X5_isPreferred (Nat.le_of_ble_eq_true rfl) hg rfl (fun x => ?_)
  refine z_iload_n 1 dX5_isPreferred_0 rfl rfl ?_
  refine z_sipush dX5_isPreferred_1 (by decide) ?_
  refine z_imul dX5_isPreferred_4 ?_
  refine z_istore (L' := [(0, _), (1, _), (2, _), (3, _), (4, _)]) dX5_isPreferred_5 (by decide) rfl rfl ?_
  refine z_aload_n 0 dX5_isPreferred_7 rfl rfl ?_
  refine z_getr fl_RX5_9 (by decide) rfl rfl dX5_isPreferred_8 ?_
  refine z_iload 4 dX5_isPreferred_11 rfl ?_
  refine z_iload_n 2 dX5_isPreferred_13 rfl rfl ?_
  refine z_iadd dX5_isPreferred_14 ?_
  refine z_iald (256 * v + f) (by decide) rfl (by omega) (by omega) (by decide) dX5_isPreferred_15 ?_
  refine z_aload_n 0 dX5_isPreferred_16 rfl rfl ?_
  refine z_getr fl_RX5_9 (by decide) rfl rfl dX5_isPreferred_17 ?_
  refine z_iload 4 dX5_isPreferred_20 rfl ?_
  refine z_iload_n 3 dX5_isPreferred_22 rfl rfl ?_
  refine z_iadd dX5_isPreferred_23 ?_
  refine z_iald (256 * v + o) (by decide) rfl (by omega) (by omega) (by decide) dX5_isPreferred_24 ?_
  rw [K v f hv hf, K v o hv ho]
  refine z_icmp_le 32 (by omega) (by omega) dX5_isPreferred_25 (by decide) (fun h_25 => ?_) (fun h_25 => ?_)
  · refine z_iconst dX5_isPreferred_32 ?_
    exact z_bret (b := false) rfl dX5_isPreferred_33 (zret_b (decide_eq_false (by omega)).symm)
  · refine z_iconst dX5_isPreferred_28 ?_
    refine z_goto 33 dX5_isPreferred_29 (by decide) ?_
    exact z_bret (b := true) rfl dX5_isPreferred_33 (zret_b (decide_eq_true (by omega)).symm)
theorem lp_countPreferring {l : Launch} {x : zX} {g : zG} {n : Nat} {Q : Option Value → zD → Prop} {d : zD} {h : Hl} {f o : Nat} (hg : zAmOk g) (w : Wf h) (H : HC 2 d h) (K : LK d h) (hf : f < 256) (ho : o < 256) (hn : 1 < n) (hQ : Q (some (zi (prefF h f o : Nat))) d) : ∀ r k, k ≤ hV h → hV h - k < r → zV l x g mX5_countPreferring n Q 5 [(0, zr g 24), (1, zi (f : Int)), (2, zi (o : Int)), (3, zi (prefN h f o k : Nat)), (4, zi (k : Int))] [] d := by
  have w3 := w.2.2.2.1
  have h4 : d 2 4 = hV h := H.1.2.2.2.2.1
  intro r
  induction r with
  | zero => intro k hk hr; omega
  | succ r ih =>
    intro k hk hr
    refine z_iload_n 1 dX5_countPreferring_5 rfl rfl ?_
    refine z_iload_n 2 dX5_countPreferring_6 rfl rfl ?_
    refine z_icmp_eq 42 (by omega) (by omega) dX5_countPreferring_7 (by decide) (fun h_7 => ?_) (fun h_7 => ?_)
    · have e : prefN h f o k = prefF h f o := by first | (rw [prefF, show k = hV h by omega]; done) | (have e1 : f = o := (by omega); subst e1; rw [prefF, prefN_self, prefN_self])
      rw [e]
      refine z_iload_n 3 dX5_countPreferring_42 rfl rfl ?_
      exact z_iret rfl dX5_countPreferring_43 (hQ)
    · refine z_iload 4 dX5_countPreferring_10 rfl ?_
      refine z_aload_n 0 dX5_countPreferring_12 rfl rfl ?_
      refine z_getr fl_RX5_15 (by decide) rfl rfl dX5_countPreferring_13 ?_
      refine z_geti fl_RX5_19 (by decide) rfl rfl dX5_countPreferring_16 ?_
      rw [h4]
      refine z_icmp_ge 42 (by omega) (by omega) dX5_countPreferring_19 (by decide) (fun h_19 => ?_) (fun h_19 => ?_)
      · have e : prefN h f o k = prefF h f o := by first | (rw [prefF, show k = hV h by omega]; done) | (have e1 : f = o := (by omega); subst e1; rw [prefF, prefN_self, prefN_self])
        rw [e]
        refine z_iload_n 3 dX5_countPreferring_42 rfl rfl ?_
        exact z_iret rfl dX5_countPreferring_43 (hQ)
      · refine z_aload_n 0 dX5_countPreferring_22 rfl rfl ?_
        refine z_iload 4 dX5_countPreferring_23 rfl ?_
        refine z_iload_n 1 dX5_countPreferring_25 rfl rfl ?_
        refine z_iload_n 2 dX5_countPreferring_26 rfl rfl ?_
        refine z_cv (t_isPreferred l hg w K (v := k) (f := f) (o := o) (by omega) hf ho) mk_X5_isPreferred mi_X5_isPreferred ml_RX5_48 (by omega) (by decide) rfl rfl rfl rfl (Nat.le_of_ble_eq_true rfl) dX5_countPreferring_27 (zpure ?_)
        refine z_if_eq_b 36 dX5_countPreferring_30 (by decide) (fun h_30 => ?_) (fun h_30 => ?_)
        · refine z_iinc 4 (L' := [(0, _), (1, _), (2, _), (3, _), (4, _)]) dX5_countPreferring_36 (by decide) rfl rfl rfl ?_
          refine z_goto 5 dX5_countPreferring_39 (by decide) ?_
          refine z_LL _ ?_ (ih (k + 1) (by omega) (by omega))
          rw [prefN]
          first | (rw [if_neg (by simp_all)]; rfl) | (rw [if_pos (by assumption)]; rfl)
        · refine z_iinc 3 (L' := [(0, _), (1, _), (2, _), (3, _), (4, _)]) dX5_countPreferring_33 (by decide) rfl rfl rfl ?_
          refine z_iinc 4 (L' := [(0, _), (1, _), (2, _), (3, _), (4, _)]) dX5_countPreferring_36 (by decide) rfl rfl rfl ?_
          refine z_goto 5 dX5_countPreferring_39 (by decide) ?_
          refine z_LL _ ?_ (ih (k + 1) (by omega) (by omega))
          rw [prefN]
          first | (rw [if_neg (by simp_all)]; rfl) | (rw [if_pos (by assumption)]; rfl)
theorem t_countPreferring (l : Launch) {g : zG} (hg : zAmOk g) {d : zD} {h : Hl} (w : Wf h) (H : HC 2 d h) (K : LK d h) {f o : Nat} (hf : f < 256) (ho : o < 256) : zC l g mX5_countPreferring 2 [zr g 24, zi (f : Int), zi (o : Int)] d (zpu (zi (prefF h f o : Nat)) d) := by
  refine zC_of (L := [(0, _), (1, _), (2, _)]) mk_X5_countPreferring (Nat.le_of_ble_eq_true rfl) hg rfl (fun x => ?_)
  refine z_iconst dX5_countPreferring_0 ?_
  refine z_istore_n (L' := [(0, _), (1, _), (2, _), (3, _)]) dX5_countPreferring_1 rfl (by decide) rfl rfl ?_
  refine z_iconst dX5_countPreferring_2 ?_
  refine z_istore (L' := [(0, _), (1, _), (2, _), (3, _), (4, _)]) dX5_countPreferring_3 (by decide) rfl rfl ?_
  exact lp_countPreferring hg w H K hf ho (by omega) ⟨rfl, rfl⟩ (hV h + 1) 0 (by omega) (by omega)
