/-! the reference: covered, the top, standing -/
noncomputable def pB (P : Prop) : Bool := @decide P (Classical.propDecidable P)
theorem pB_t {P : Prop} (h : P) : pB P = true := @decide_eq_true P (Classical.propDecidable P) h
theorem pB_f {P : Prop} (h : ¬ P) : pB P = false := @decide_eq_false P (Classical.propDecidable P) h
theorem pB_iff {P : Prop} : pB P = true ↔ P := ⟨fun h => @of_decide_eq_true P (Classical.propDecidable P) h, pB_t⟩
theorem pB_eq {P : Prop} {b : Bool} (h : b = true ↔ P) : b = pB P := by
  cases b with
  | true => exact (pB_t (h.mp rfl)).symm
  | false => exact (pB_f (fun z => by have := h.mpr z; cases this)).symm
def cvP (h : Hl) (g f : Nat) : Prop := btF h g f = true ∧ ∀ x, x < 256 → oB h x = true → btF h f x = true → btF h g x = true
theorem t8_covers (l : Launch) {g : zG} (hg : zAmOk g) {d : zD} {h : Hl} (w : Wf h) (H : HM d h) (K : LKM d h) (O : OM d h) {a f : Nat} (ha : a < 256) (hf : f < 256) : zC l g mX8_covers 4 [zr g 37, zi (a : Int), zi (f : Int)] d (zpu (zi (zb (pB (cvP h a f)))) d) := by
  have key : ∀ (x : zX), btF h a f = true → ∀ (r k : Nat), (∀ x, x < k → oB h x = true → btF h f x = true → btF h a x = true) → k ≤ 256 → 256 - k < r → zV l x g mX8_covers 4 (zpu (zi (zb (pB (cvP h a f)))) d) 13 [(0, zr g 37), (1, zi (a : Int)), (2, zi (f : Int)), (3, zi (k : Int))] [] d := by
    intro x hb r
    induction r with
    | zero => intro k a1 a2 hr; omega
    | succ r ih =>
      intro k hk1 hk hr
      refine z_iload_n 3 dX8_covers_13 rfl rfl ?_
      refine z_sipush dX8_covers_14 (by decide) ?_
      refine z_icmp_ge 55 (by omega) (by omega) dX8_covers_17 (by decide) (fun h_17 => ?_) (fun h_17 => ?_)
      · refine z_iconst dX8_covers_55 ?_
        exact z_bret (b := true) rfl dX8_covers_56 (zret_b (pB_t ⟨hb, fun x hx => hk1 x (by omega)⟩).symm)
      · refine z_aload_n 0 dX8_covers_20 rfl rfl ?_
        refine z_getr fl_RX8_85 (by decide) rfl rfl dX8_covers_21 ?_
        refine z_iload_n 3 dX8_covers_24 rfl rfl ?_
        refine z_bald k (by decide) rfl rfl (by omega) (by decide) dX8_covers_25 ?_
        rw [O k (by omega)]
        refine z_if_eq_b 49 dX8_covers_26 (by decide) (fun h_26 => ?_) (fun h_26 => ?_)
        · refine z_iinc 3 (L' := [(0, _), (1, _), (2, _), (3, _)]) dX8_covers_49 (by decide) rfl rfl rfl ?_
          refine z_goto 13 dX8_covers_52 (by decide) ?_
          refine ih (k + 1) (fun x hx z1 z2 => ?_) (by omega) (by omega)
          by_cases e : x = k
          · rw [e, h_26] at z1; cases z1
          · exact hk1 x (by omega) z1 z2
        · refine z_aload_n 0 dX8_covers_29 rfl rfl ?_
          refine z_iload_n 2 dX8_covers_30 rfl rfl ?_
          refine z_iload_n 3 dX8_covers_31 rfl rfl ?_
          refine z_cv (t8_beats l hg w H K (f := f) (o := k) hf (by omega)) mk_X8_beats mi_X8_beats ml_RX8_314 (by omega) (by decide) rfl rfl rfl rfl (Nat.le_of_ble_eq_true rfl) dX8_covers_32 (zpure ?_)
          refine z_if_eq_b 49 dX8_covers_35 (by decide) (fun h_35 => ?_) (fun h_35 => ?_)
          · refine z_iinc 3 (L' := [(0, _), (1, _), (2, _), (3, _)]) dX8_covers_49 (by decide) rfl rfl rfl ?_
            refine z_goto 13 dX8_covers_52 (by decide) ?_
            refine ih (k + 1) (fun x hx z1 z2 => ?_) (by omega) (by omega)
            by_cases e : x = k
            · rw [e, h_35] at z2; cases z2
            · exact hk1 x (by omega) z1 z2
          · refine z_aload_n 0 dX8_covers_38 rfl rfl ?_
            refine z_iload_n 1 dX8_covers_39 rfl rfl ?_
            refine z_iload_n 3 dX8_covers_40 rfl rfl ?_
            refine z_cv (t8_beats l hg w H K (f := a) (o := k) ha (by omega)) mk_X8_beats mi_X8_beats ml_RX8_314 (by omega) (by decide) rfl rfl rfl rfl (Nat.le_of_ble_eq_true rfl) dX8_covers_41 (zpure ?_)
            refine z_if_ne_b 49 dX8_covers_44 (by decide) (fun h_44 => ?_) (fun h_44 => ?_)
            · refine z_iinc 3 (L' := [(0, _), (1, _), (2, _), (3, _)]) dX8_covers_49 (by decide) rfl rfl rfl ?_
              refine z_goto 13 dX8_covers_52 (by decide) ?_
              refine ih (k + 1) (fun x hx z1 z2 => ?_) (by omega) (by omega)
              by_cases e : x = k
              · rw [e]; exact h_44
              · exact hk1 x (by omega) z1 z2
            · refine z_iconst dX8_covers_47 ?_
              exact z_bret (b := false) rfl dX8_covers_48 (zret_b (pB_f (fun z => by have := z.2 k (by omega) h_26 h_35; rw [h_44] at this; cases this)).symm)
  refine zC_of (L := [(0, _), (1, _), (2, _)]) mk_X8_covers (Nat.le_of_ble_eq_true rfl) hg rfl (fun x => ?_)
  refine z_aload_n 0 dX8_covers_0 rfl rfl ?_
  refine z_iload_n 1 dX8_covers_1 rfl rfl ?_
  refine z_iload_n 2 dX8_covers_2 rfl rfl ?_
  refine z_cv (t8_beats l hg w H K ha hf) mk_X8_beats mi_X8_beats ml_RX8_314 (by omega) (by decide) rfl rfl rfl rfl (Nat.le_of_ble_eq_true rfl) dX8_covers_3 (zpure ?_)
  refine z_if_ne_b 11 dX8_covers_6 (by decide) (fun h_6 => ?_) (fun h_6 => ?_)
  · refine z_iconst dX8_covers_11 ?_
    refine z_istore_n (L' := [(0, _), (1, _), (2, _), (3, _)]) dX8_covers_12 rfl (by decide) rfl rfl ?_
    exact key x h_6 257 0 (fun x hx => absurd hx (by omega)) (by omega) (by omega)
  · refine z_iconst dX8_covers_9 ?_
    exact z_bret (b := false) rfl dX8_covers_10 (zret_b (pB_f (fun z => by have := z.1; rw [h_6] at this; cases this)).symm)
def icP (h : Hl) (f : Nat) : Prop := ∃ a, a < 256 ∧ oB h a = true ∧ a ≠ f ∧ cvP h a f
theorem t8_isCovered (l : Launch) {g : zG} (hg : zAmOk g) {d : zD} {h : Hl} (w : Wf h) (H : HM d h) (K : LKM d h) (O : OM d h) {f : Nat} (hf : f < 256) : zC l g mX8_isCovered 5 [zr g 37, zi (f : Int)] d (zpu (zi (zb (pB (icP h f)))) d) := by
  have key : ∀ (x : zX), ∀ (r k : Nat), (∀ a, a < k → ¬ (oB h a = true ∧ a ≠ f ∧ cvP h a f)) → k ≤ 256 → 256 - k < r → zV l x g mX8_isCovered 5 (zpu (zi (zb (pB (icP h f)))) d) 2 [(0, zr g 37), (1, zi (f : Int)), (2, zi (k : Int))] [] d := by
    intro x r
    induction r with
    | zero => intro k a1 a2 hr; omega
    | succ r ih =>
      intro k hk1 hk hr
      refine z_iload_n 2 dX8_isCovered_2 rfl rfl ?_
      refine z_sipush dX8_isCovered_3 (by decide) ?_
      refine z_icmp_ge 40 (by omega) (by omega) dX8_isCovered_6 (by decide) (fun h_6 => ?_) (fun h_6 => ?_)
      · refine z_iconst dX8_isCovered_40 ?_
        exact z_bret (b := false) rfl dX8_isCovered_41 (zret_b (pB_f (fun z => by obtain ⟨a, a1, a2⟩ := z; exact hk1 a (by omega) a2)).symm)
      · refine z_aload_n 0 dX8_isCovered_9 rfl rfl ?_
        refine z_getr fl_RX8_85 (by decide) rfl rfl dX8_isCovered_10 ?_
        refine z_iload_n 2 dX8_isCovered_13 rfl rfl ?_
        refine z_bald k (by decide) rfl rfl (by omega) (by decide) dX8_isCovered_14 ?_
        rw [O k (by omega)]
        refine z_if_eq_b 34 dX8_isCovered_15 (by decide) (fun h_15 => ?_) (fun h_15 => ?_)
        · refine z_iinc 2 (L' := [(0, _), (1, _), (2, _)]) dX8_isCovered_34 (by decide) rfl rfl rfl ?_
          refine z_goto 2 dX8_isCovered_37 (by decide) ?_
          refine ih (k + 1) (fun a ha z => ?_) (by omega) (by omega)
          by_cases e : a = k
          · have := z.1; rw [e, h_15] at this; cases this
          · exact hk1 a (by omega) z
        · refine z_iload_n 2 dX8_isCovered_18 rfl rfl ?_
          refine z_iload_n 1 dX8_isCovered_19 rfl rfl ?_
          refine z_icmp_eq 34 (by omega) (by omega) dX8_isCovered_20 (by decide) (fun h_20 => ?_) (fun h_20 => ?_)
          · refine z_iinc 2 (L' := [(0, _), (1, _), (2, _)]) dX8_isCovered_34 (by decide) rfl rfl rfl ?_
            refine z_goto 2 dX8_isCovered_37 (by decide) ?_
            refine ih (k + 1) (fun a ha z => ?_) (by omega) (by omega)
            by_cases e : a = k
            · exact z.2.1 (by omega)
            · exact hk1 a (by omega) z
          · refine z_aload_n 0 dX8_isCovered_23 rfl rfl ?_
            refine z_iload_n 2 dX8_isCovered_24 rfl rfl ?_
            refine z_iload_n 1 dX8_isCovered_25 rfl rfl ?_
            refine z_cv (t8_covers l hg w H K O (a := k) (f := f) (by omega) hf) mk_X8_covers mi_X8_covers ml_RX8_320 (by omega) (by decide) rfl rfl rfl rfl (Nat.le_of_ble_eq_true rfl) dX8_isCovered_26 (zpure ?_)
            refine z_if_eq_b 34 dX8_isCovered_29 (by decide) (fun h_29 => ?_) (fun h_29 => ?_)
            · refine z_iinc 2 (L' := [(0, _), (1, _), (2, _)]) dX8_isCovered_34 (by decide) rfl rfl rfl ?_
              refine z_goto 2 dX8_isCovered_37 (by decide) ?_
              refine ih (k + 1) (fun a ha z => ?_) (by omega) (by omega)
              by_cases e : a = k
              · have := pB_t z.2.2; rw [e, h_29] at this; cases this
              · exact hk1 a (by omega) z
            · refine z_iconst dX8_isCovered_32 ?_
              exact z_bret (b := true) rfl dX8_isCovered_33 (zret_b (pB_t ⟨k, by omega, h_15, by omega, pB_iff.mp h_29⟩).symm)
  refine zC_of (L := [(0, _), (1, _)]) mk_X8_isCovered (Nat.le_of_ble_eq_true rfl) hg rfl (fun x => ?_)
  refine z_iconst dX8_isCovered_0 ?_
  refine z_istore_n (L' := [(0, _), (1, _), (2, _)]) dX8_isCovered_1 rfl (by decide) rfl rfl ?_
  exact key x 257 0 (fun x hx => absurd hx (by omega)) (by omega) (by omega)
def TRL (d : zD) (T : Nat → Bool) : Prop := ∀ f, f < 256 → d 65 f = zb (T f)
theorem TRL.of {d d' : zD} {T : Nat → Bool} (H : TRL d T) (e : d' 65 = d 65) : TRL d' T := fun f hf => by rw [e]; exact H f hf
def blP (h : Hl) (T : Nat → Bool) (a : Nat) : Prop := ∀ f, f < 256 → T f = true → btF h f a = true
theorem t8_isBelow (l : Launch) {g : zG} (hg : zAmOk g) {d : zD} {h : Hl} (w : Wf h) (H : HM d h) (K : LKM d h) {T : Nat → Bool} (R : TRL d T) {a : Nat} (ha : a < 256) : zC l g mX8_isBelow 4 [zr g 37, zi (a : Int)] d (zpu (zi (zb (pB (blP h T a)))) d) := by
  have key : ∀ (x : zX), ∀ (r k : Nat), (∀ f, f < k → T f = true → btF h f a = true) → k ≤ 256 → 256 - k < r → zV l x g mX8_isBelow 4 (zpu (zi (zb (pB (blP h T a)))) d) 2 [(0, zr g 37), (1, zi (a : Int)), (2, zi (k : Int))] [] d := by
    intro x r
    induction r with
    | zero => intro k a1 a2 hr; omega
    | succ r ih =>
      intro k hk1 hk hr
      refine z_iload_n 2 dX8_isBelow_2 rfl rfl ?_
      refine z_sipush dX8_isBelow_3 (by decide) ?_
      refine z_icmp_ge 35 (by omega) (by omega) dX8_isBelow_6 (by decide) (fun h_6 => ?_) (fun h_6 => ?_)
      · refine z_iconst dX8_isBelow_35 ?_
        exact z_bret (b := true) rfl dX8_isBelow_36 (zret_b (pB_t (fun f hf => hk1 f (by omega))).symm)
      · refine z_aload_n 0 dX8_isBelow_9 rfl rfl ?_
        refine z_getr fl_RX8_92 (by decide) rfl rfl dX8_isBelow_10 ?_
        refine z_iload_n 2 dX8_isBelow_13 rfl rfl ?_
        refine z_bald k (by decide) rfl rfl (by omega) (by decide) dX8_isBelow_14 ?_
        rw [R k (by omega)]
        refine z_if_eq_b 29 dX8_isBelow_15 (by decide) (fun h_15 => ?_) (fun h_15 => ?_)
        · refine z_iinc 2 (L' := [(0, _), (1, _), (2, _)]) dX8_isBelow_29 (by decide) rfl rfl rfl ?_
          refine z_goto 2 dX8_isBelow_32 (by decide) ?_
          refine ih (k + 1) (fun f hf z => ?_) (by omega) (by omega)
          by_cases e : f = k
          · rw [e, h_15] at z; cases z
          · exact hk1 f (by omega) z
        · refine z_aload_n 0 dX8_isBelow_18 rfl rfl ?_
          refine z_iload_n 2 dX8_isBelow_19 rfl rfl ?_
          refine z_iload_n 1 dX8_isBelow_20 rfl rfl ?_
          refine z_cv (t8_beats l hg w H K (f := k) (o := a) (by omega) ha) mk_X8_beats mi_X8_beats ml_RX8_314 (by omega) (by decide) rfl rfl rfl rfl (Nat.le_of_ble_eq_true rfl) dX8_isBelow_21 (zpure ?_)
          refine z_if_ne_b 29 dX8_isBelow_24 (by decide) (fun h_24 => ?_) (fun h_24 => ?_)
          · refine z_iinc 2 (L' := [(0, _), (1, _), (2, _)]) dX8_isBelow_29 (by decide) rfl rfl rfl ?_
            refine z_goto 2 dX8_isBelow_32 (by decide) ?_
            refine ih (k + 1) (fun f hf z => ?_) (by omega) (by omega)
            by_cases e : f = k
            · rw [e]; exact h_24
            · exact hk1 f (by omega) z
          · refine z_iconst dX8_isBelow_27 ?_
            exact z_bret (b := false) rfl dX8_isBelow_28 (zret_b (pB_f (fun z => by have := z k (by omega) h_15; rw [h_24] at this; cases this)).symm)
  refine zC_of (L := [(0, _), (1, _)]) mk_X8_isBelow (Nat.le_of_ble_eq_true rfl) hg rfl (fun x => ?_)
  refine z_iconst dX8_isBelow_0 ?_
  refine z_istore_n (L' := [(0, _), (1, _), (2, _)]) dX8_isBelow_1 rfl (by decide) rfl rfl ?_
  exact key x 257 0 (fun x hx => absurd hx (by omega)) (by omega) (by omega)
/-- a set of forms that stands above all others -/
def dmF (h : Hl) (P : Nat → Prop) : Prop := ∀ a b, a < 256 → b < 256 → oB h a = true → oB h b = true → P a → ¬ P b → btF h a b = true
/-- the least such set with f in it -/
def clF (h : Hl) (f x : Nat) : Prop := oB h x = true ∧ ∀ P, dmF h P → P f → P x
noncomputable def clB2 (h : Hl) (f : Nat) : Nat → Bool := fun x => pB (clF h f x)
theorem cntB_ext {f g : Nat → Bool} : ∀ k, (∀ j, j < k → f j = g j) → cntB f k = cntB g k
  | 0, _ => rfl
  | k + 1, h => by rw [cntB, cntB, cntB_ext k (fun j hj => h j (by omega)), h k (by omega)]
theorem cntB_up {f : Nat → Bool} {a : Nat} : ∀ k, f a = false → cntB (fun x => if x = a then true else f x) k = cntB f k + (if a < k then 1 else 0)
  | 0, _ => rfl
  | k + 1, hf => by
    rw [cntB, cntB, cntB_up k hf]
    show cntB f k + (if a < k then 1 else 0) + (if (if k = a then true else f k) = true then 1 else 0) = cntB f k + (if f k = true then 1 else 0) + (if a < k + 1 then 1 else 0)
    by_cases e : k = a
    · rw [if_pos e, if_neg (show ¬ a < k by omega), if_pos (show a < k + 1 by omega), if_neg (show ¬ f k = true by rw [e, hf]; decide), if_pos rfl]
    · rw [if_neg e]
      by_cases c : a < k
      · rw [if_pos c, if_pos (show a < k + 1 by omega)]; omega
      · rw [if_neg c, if_neg (show ¬ a < k + 1 by omega)]; rfl
theorem cntB_one (a : Nat) : ∀ k, cntB (fun x => decide (x = a)) k = if a < k then 1 else 0
  | 0 => rfl
  | k + 1 => by
    rw [cntB, cntB_one a k]
    by_cases e : k = a
    · rw [if_neg (show ¬ a < k by omega), if_pos (show a < k + 1 by omega), if_pos (decide_eq_true e)]
    · rw [if_neg (show ¬ decide (k = a) = true by rw [decide_eq_false e]; decide)]
      by_cases c : a < k
      · rw [if_pos c, if_pos (show a < k + 1 by omega)]
      · rw [if_neg c, if_neg (show ¬ a < k + 1 by omega)]
def gfQ (d : zD) (h : Hl) (f : Nat) : Option Value → zD → Prop := fun r d' => r = some (zi (cntB (clB2 h f) 256 : Nat)) ∧ zF [65] d d' ∧ TRL d' (clB2 h f)
/-- what the growing set keeps to -/
def gOk (h : Hl) (f : Nat) (T : Nat → Bool) : Prop := T f = true ∧ ∀ x, x < 256 → T x = true → clF h f x
theorem gOk.add {h : Hl} {f a : Nat} {T : Nat → Bool} (H : gOk h f T) (ha : a < 256) (ho : oB h a = true) (hb : ¬ blP h T a) : gOk h f (fun x => if x = a then true else T x) := by
  refine ⟨?_, fun x hx hT => ?_⟩
  · show (if f = a then true else T f) = true
    split
    · rfl
    · exact H.1
  · by_cases e : x = a
    · rw [e]
      refine ⟨ho, fun P hP hf => Classical.byContradiction fun z => hb (fun c hc hTc => ?_)⟩
      have hcl := H.2 c hc hTc
      exact hP c a hc ha hcl.1 ho (hcl.2 P hP hf) z
    · have hT' : (if x = a then true else T x) = true := hT
      rw [if_neg e] at hT'
      exact H.2 x hx hT'
theorem gOk.fin {h : Hl} {f : Nat} {T : Nat → Bool} (H : gOk h f T) (hd : ∀ a, a < 256 → oB h a = true → T a = false → blP h T a) : ∀ x, x < 256 → T x = clB2 h f x := fun x hx => pB_eq ⟨fun hT => H.2 x hx hT, fun hc => by
  refine hc.2 (fun y => T y = true) (fun a b ha hb oa ob Ta Tb => hd b hb ob ?_ a ha Ta) H.1
  rw [← Bool.not_eq_true]; exact Tb⟩
theorem t8_growsFrom (l : Launch) {g : zG} (hg : zAmOk g) {d : zD} {h : Hl} (w : Wf h) (H : HM d h) (K : LKM d h) (O : OM d h) {f : Nat} (hf : f < 256) (hof : oB h f = true) : zC l g mX8_growsFrom 5 [zr g 37, zi (f : Int)] d (gfQ d h f) := by
  have fr : ∀ d1, zF [65] d d1 → HM d1 h ∧ LKM d1 h ∧ OM d1 h := fun d1 F => ⟨HM.of H F (by decide), K.of (F 59 (by decide)), O.of (F 63 (by decide))⟩
  have key3 : ∀ (x : zX) (Q : Option Value → zD → Prop) (c0 : Nat), (∀ (d1 : zD) (T : Nat → Bool) (m : Bool), zF [65] d d1 → TRL d1 T → gOk h f T → (m = false → ∀ a, a < 256 → oB h a = true → T a = false → blP h T a) → (m = true → c0 < cntB T 256) → zV l x g mX8_growsFrom 5 Q 35 [(0, zr g 37), (1, zi (f : Int)), (2, zi (cntB T 256 : Nat)), (3, zi (zb m))] [] d1) → ∀ (r k : Nat) (d1 : zD) (T : Nat → Bool) (m : Bool), zF [65] d d1 → TRL d1 T → gOk h f T → (m = false → ∀ a, a < k → oB h a = true → T a = false → blP h T a) → (m = true → c0 < cntB T 256) → c0 ≤ cntB T 256 → k ≤ 256 → 256 - k < r → zV l x g mX8_growsFrom 5 Q 44 [(0, zr g 37), (1, zi (f : Int)), (2, zi (cntB T 256 : Nat)), (3, zi (zb m)), (4, zi (k : Int))] [] d1 := by
    intro x Q c0 kk r
    induction r with
    | zero => intro k d1 T m a1 a2 a3 a4 a5 a6 a7 hr; omega
    | succ r ih =>
      intro k d1 T m F R G hm hc hc2 hk hr
      obtain ⟨H1, K1, O1⟩ := fr d1 F
      have hcl := cntB_le T 256
      refine z_iload 4 dX8_growsFrom_44 rfl ?_
      refine z_sipush dX8_growsFrom_46 (by decide) ?_
      refine z_icmp_ge 100 (by omega) (by omega) dX8_growsFrom_49 (by decide) (fun h_49 => ?_) (fun h_49 => ?_)
      · refine z_goto 35 dX8_growsFrom_100 (by decide) ?_
        refine z_sub (L' := [(0, _), (1, _), (2, _), (3, _)]) [0, 1, 2, 3] rfl ?_
        exact kk d1 T m F R G (fun z a ha => hm z a (by omega)) hc
      · refine z_aload_n 0 dX8_growsFrom_52 rfl rfl ?_
        refine z_getr fl_RX8_85 (by decide) rfl rfl dX8_growsFrom_53 ?_
        refine z_iload 4 dX8_growsFrom_56 rfl ?_
        refine z_bald k (by decide) rfl rfl (by omega) (by decide) dX8_growsFrom_58 ?_
        rw [O1 k (by omega)]
        refine z_if_eq_b 94 dX8_growsFrom_59 (by decide) (fun h_59 => ?_) (fun h_59 => ?_)
        · refine z_iinc 4 (L' := [(0, _), (1, _), (2, _), (3, _), (4, _)]) dX8_growsFrom_94 (by decide) rfl rfl rfl ?_
          refine z_goto 44 dX8_growsFrom_97 (by decide) ?_
          refine ih (k + 1) d1 T m F R G (fun z a ha oa Ta => ?_) hc hc2 (by omega) (by omega)
          by_cases e : a = k
          · rw [e, h_59] at oa; cases oa
          · exact hm z a (by omega) oa Ta
        · refine z_aload_n 0 dX8_growsFrom_62 rfl rfl ?_
          refine z_getr fl_RX8_92 (by decide) rfl rfl dX8_growsFrom_63 ?_
          refine z_iload 4 dX8_growsFrom_66 rfl ?_
          refine z_bald k (by decide) rfl rfl (by omega) (by decide) dX8_growsFrom_68 ?_
          rw [R k (by omega)]
          refine z_if_ne_b 94 dX8_growsFrom_69 (by decide) (fun h_69 => ?_) (fun h_69 => ?_)
          · refine z_iinc 4 (L' := [(0, _), (1, _), (2, _), (3, _), (4, _)]) dX8_growsFrom_94 (by decide) rfl rfl rfl ?_
            refine z_goto 44 dX8_growsFrom_97 (by decide) ?_
            refine ih (k + 1) d1 T m F R G (fun z a ha oa Ta => ?_) hc hc2 (by omega) (by omega)
            by_cases e : a = k
            · rw [e, h_69] at Ta; cases Ta
            · exact hm z a (by omega) oa Ta
          · refine z_aload_n 0 dX8_growsFrom_72 rfl rfl ?_
            refine z_iload 4 dX8_growsFrom_73 rfl ?_
            refine z_cv (t8_isBelow l hg w H1 K1 R (a := k) (by omega)) mk_X8_isBelow mi_X8_isBelow ml_RX8_311 (by omega) (by decide) rfl rfl rfl rfl (Nat.le_of_ble_eq_true rfl) dX8_growsFrom_75 (zpure ?_)
            refine z_if_ne_b 94 dX8_growsFrom_78 (by decide) (fun h_78 => ?_) (fun h_78 => ?_)
            · refine z_iinc 4 (L' := [(0, _), (1, _), (2, _), (3, _), (4, _)]) dX8_growsFrom_94 (by decide) rfl rfl rfl ?_
              refine z_goto 44 dX8_growsFrom_97 (by decide) ?_
              refine ih (k + 1) d1 T m F R G (fun z a ha oa Ta => ?_) hc hc2 (by omega) (by omega)
              by_cases e : a = k
              · rw [e]; exact pB_iff.mp h_78
              · exact hm z a (by omega) oa Ta
            · have hnb : ¬ blP h T k := fun z => by rw [pB_t z] at h_78; cases h_78
              have hup := cntB_up (f := T) (a := k) 256 h_69
              rw [if_pos (show k < 256 by omega)] at hup
              refine z_aload_n 0 dX8_growsFrom_81 rfl rfl ?_
              refine z_getr fl_RX8_92 (by decide) rfl rfl dX8_growsFrom_82 ?_
              refine z_iload 4 dX8_growsFrom_85 rfl ?_
              refine z_iconst dX8_growsFrom_87 ?_
              refine z_top (zb true) rfl ?_
              refine z_bast k (by decide) rfl rfl (by omega) (by decide) dX8_growsFrom_88 ?_
              refine z_iinc 2 (L' := [(0, _), (1, _), (2, _), (3, _), (4, _)]) dX8_growsFrom_89 (by decide) rfl rfl rfl ?_
              refine z_iconst dX8_growsFrom_92 ?_
              refine z_istore_n (L' := [(0, _), (1, _), (2, _), (3, _), (4, _)]) dX8_growsFrom_93 rfl (by decide) rfl rfl ?_
              refine z_iinc 4 (L' := [(0, _), (1, _), (2, _), (3, _), (4, _)]) dX8_growsFrom_94 (by decide) rfl rfl rfl ?_
              refine z_goto 44 dX8_growsFrom_97 (by decide) ?_
              refine z_LL _ ?_ (ih (k + 1) _ (fun x => if x = k then true else T x) true (F.up (by decide)) (fun y hy => ?_) (G.add (by omega) h_59 hnb) (fun z => by cases z) (fun _ => by omega) (by omega) (by omega) (by omega))
              · rw [hup]; rfl
              · rw [zu_row]
                show _ = zb (if y = k then true else T y)
                split
                · rfl
                · exact R y hy
  have keyE : ∀ (x : zX) (d1 : zD) (T : Nat → Bool), zF [65] d d1 → TRL d1 T → gOk h f T → (∀ a, a < 256 → oB h a = true → T a = false → blP h T a) → zV l x g mX8_growsFrom 5 (gfQ d h f) 35 [(0, zr g 37), (1, zi (f : Int)), (2, zi (cntB T 256 : Nat)), (3, zi (zb false))] [] d1 := by
    intro x d1 T F R G hm
    refine z_LL [(0, zr g 37), (1, zi (f : Int)), (2, zi (cntB T 256 : Nat)), (3, zi 0)] rfl ?_
    refine z_iload_n 3 dX8_growsFrom_35 rfl rfl ?_
    refine z_if_eq 103 (by omega) dX8_growsFrom_36 (by decide) (fun h_36 => ?_) (fun h_36 => absurd rfl h_36)
    refine z_iload_n 2 dX8_growsFrom_103 rfl rfl ?_
    have hfin := G.fin hm
    rw [cntB_ext 256 hfin]
    exact z_iret rfl dX8_growsFrom_104 (⟨rfl, F, fun y hy => by rw [R y hy, hfin y hy]⟩)
  have key2 : ∀ (x : zX) (r : Nat) (d1 : zD) (T : Nat → Bool) (m : Bool), zF [65] d d1 → TRL d1 T → gOk h f T → (m = false → ∀ a, a < 256 → oB h a = true → T a = false → blP h T a) → 256 - cntB T 256 < r → zV l x g mX8_growsFrom 5 (gfQ d h f) 35 [(0, zr g 37), (1, zi (f : Int)), (2, zi (cntB T 256 : Nat)), (3, zi (zb m))] [] d1 := by
    intro x r
    induction r with
    | zero => intro d1 T m a1 a2 a3 a4 hr; omega
    | succ r ih =>
      intro d1 T m F R G hm hr
      have hcl := cntB_le T 256
      refine z_iload_n 3 dX8_growsFrom_35 rfl rfl ?_
      refine z_if_eq_b 103 dX8_growsFrom_36 (by decide) (fun h_36 => ?_) (fun h_36 => ?_)
      · refine z_iload_n 2 dX8_growsFrom_103 rfl rfl ?_
        have hfin := G.fin (hm h_36)
        rw [cntB_ext 256 hfin]
        exact z_iret rfl dX8_growsFrom_104 (⟨rfl, F, fun y hy => by rw [R y hy, hfin y hy]⟩)
      · refine z_iconst dX8_growsFrom_39 ?_
        refine z_istore_n (L' := [(0, _), (1, _), (2, _), (3, _)]) dX8_growsFrom_40 rfl (by decide) rfl rfl ?_
        refine z_iconst dX8_growsFrom_41 ?_
        refine z_istore (L' := [(0, _), (1, _), (2, _), (3, _), (4, _)]) dX8_growsFrom_42 (by decide) rfl rfl ?_
        refine key3 x _ (cntB T 256) (fun d2 T2 m2 F2 R2 G2 hm2 hc2 => ?_) 257 0 d1 T false F R G (fun _ a ha => absurd ha (by omega)) (fun z => by cases z) (Nat.le_refl _) (by omega) (by omega)
        cases m2 with
        | true =>
          have := hc2 rfl
          have := cntB_le T2 256
          exact ih d2 T2 true F2 R2 G2 hm2 (by omega)
        | false => exact keyE x d2 T2 F2 R2 G2 (hm2 rfl)
  have key1 : ∀ (x : zX) (r k : Nat) (d1 : zD), zF [65] d d1 → (∀ y, y < k → d1 65 y = zb (decide (y = f))) → k ≤ 256 → 256 - k < r → zV l x g mX8_growsFrom 5 (gfQ d h f) 2 [(0, zr g 37), (1, zi (f : Int)), (2, zi (k : Int))] [] d1 := by
    intro x r
    induction r with
    | zero => intro k d1 a1 a2 a3 hr; omega
    | succ r ih =>
      intro k d1 F R hk hr
      refine z_iload_n 2 dX8_growsFrom_2 rfl rfl ?_
      refine z_sipush dX8_growsFrom_3 (by decide) ?_
      refine z_icmp_ge 31 (by omega) (by omega) dX8_growsFrom_6 (by decide) (fun h_6 => ?_) (fun h_6 => ?_)
      · refine z_iconst dX8_growsFrom_31 ?_
        refine z_istore_n (L' := [(0, _), (1, _), (2, _)]) dX8_growsFrom_32 rfl (by decide) rfl rfl ?_
        refine z_iconst dX8_growsFrom_33 ?_
        refine z_istore_n (L' := [(0, _), (1, _), (2, _), (3, _)]) dX8_growsFrom_34 rfl (by decide) rfl rfl ?_
        have h1 := cntB_one f 256
        rw [if_pos hf] at h1
        refine z_LL _ ?_ (key2 x 257 d1 (fun y => decide (y = f)) true F (fun y hy => R y (by omega)) ⟨decide_eq_true rfl, fun y hy hT => ?_⟩ (fun z => by cases z) (by omega))
        · rw [h1]; rfl
        · rw [of_decide_eq_true hT]; exact ⟨hof, fun P _ hP => hP⟩
      · refine z_aload_n 0 dX8_growsFrom_9 rfl rfl ?_
        refine z_getr fl_RX8_92 (by decide) rfl rfl dX8_growsFrom_10 ?_
        refine z_iload_n 2 dX8_growsFrom_13 rfl rfl ?_
        refine z_iload_n 2 dX8_growsFrom_14 rfl rfl ?_
        refine z_iload_n 1 dX8_growsFrom_15 rfl rfl ?_
        refine z_icmp_ne 23 (by omega) (by omega) dX8_growsFrom_16 (by decide) (fun h_16 => ?_) (fun h_16 => ?_)
        · refine z_iconst dX8_growsFrom_23 ?_
          refine z_top (zb (decide (k = f))) (by rw [decide_eq_false (by omega)]; rfl) ?_
          refine z_bast k (by decide) rfl rfl (by omega) (by decide) dX8_growsFrom_24 ?_
          refine z_iinc 2 (L' := [(0, _), (1, _), (2, _)]) dX8_growsFrom_25 (by decide) rfl rfl rfl ?_
          refine z_goto 2 dX8_growsFrom_28 (by decide) ?_
          refine ih (k + 1) _ (F.up (by decide)) (fun y hy => ?_) (by omega) (by omega)
          rw [zu_row]
          by_cases e : y = k
          · rw [if_pos e, e]
          · rw [if_neg e]; exact R y (by omega)
        · refine z_iconst dX8_growsFrom_19 ?_
          refine z_goto 24 dX8_growsFrom_20 (by decide) ?_
          refine z_top (zb (decide (k = f))) (by rw [decide_eq_true (by omega)]; rfl) ?_
          refine z_bast k (by decide) rfl rfl (by omega) (by decide) dX8_growsFrom_24 ?_
          refine z_iinc 2 (L' := [(0, _), (1, _), (2, _)]) dX8_growsFrom_25 (by decide) rfl rfl rfl ?_
          refine z_goto 2 dX8_growsFrom_28 (by decide) ?_
          refine ih (k + 1) _ (F.up (by decide)) (fun y hy => ?_) (by omega) (by omega)
          rw [zu_row]
          by_cases e : y = k
          · rw [if_pos e, e]
          · rw [if_neg e]; exact R y (by omega)
  refine zC_of (L := [(0, _), (1, _)]) mk_X8_growsFrom (Nat.le_of_ble_eq_true rfl) hg rfl (fun x => ?_)
  refine z_iconst dX8_growsFrom_0 ?_
  refine z_istore_n (L' := [(0, _), (1, _), (2, _)]) dX8_growsFrom_1 rfl (by decide) rfl rfl ?_
  exact key1 x 257 0 d zF.rf (fun f hf => absurd hf (by omega)) (by omega) (by omega)
