/-! the hall as numbers: what is told, and the forms that sets of motions make -/
abbrev Hl : Type := (Nat × Nat × Int × Nat × Nat × Nat) × (Nat → Nat) × (Nat → Int) × (Nat → Nat) × (Nat → Nat) × (Nat → Int) × (Nat → Nat) × (Nat → Nat) × (Nat → Int)
def hB (h : Hl) : Nat := h.1.1
def hQ (h : Hl) : Nat := h.1.2.1
def hS (h : Hl) : Int := h.1.2.2.1
def hN (h : Hl) : Nat := h.1.2.2.2.1
def hV (h : Hl) : Nat := h.1.2.2.2.2.1
def hJ (h : Hl) : Nat := h.1.2.2.2.2.2
def hso (h : Hl) : Nat → Nat := h.2.1
def hpa (h : Hl) : Nat → Int := h.2.2.1
def hpl (h : Hl) : Nat → Nat := h.2.2.2.1
def hmi (h : Hl) : Nat → Nat := h.2.2.2.2.1
def hwe (h : Hl) : Nat → Int := h.2.2.2.2.2.1
def hjv (h : Hl) : Nat → Nat := h.2.2.2.2.2.2.1
def hjs (h : Hl) : Nat → Nat := h.2.2.2.2.2.2.2.1
def hjw (h : Hl) : Nat → Int := h.2.2.2.2.2.2.2.2
/-- what every told hall keeps to -/
def Wf (h : Hl) : Prop := hB h < 256 ∧ hQ h ≤ 9 ∧ hN h ≤ 6 ∧ hV h ≤ 9 ∧ hJ h ≤ 6 ∧ (hS h = -1 ∨ (0 ≤ hS h ∧ hS h < hN h)) ∧
  (∀ i, i < hN h → hso h i ≤ 3 ∧ hpl h i < 256 ∧ hmi h i < 256 ∧ (hso h i = 1 ↔ hS h = i) ∧ (hso h i = 0 ∨ hso h i = 1 → hpa h i = -1) ∧ (hso h i = 2 → hpa h i = hS h ∧ 0 ≤ hS h ∧ hS h < i) ∧ (hso h i = 3 → 0 ≤ hpa h i ∧ hpa h i < i ∧ (hso h (hpa h i).toNat = 0 ∨ hso h (hpa h i).toNat = 2))) ∧
  (∀ i, i < 8 * hV h → -9 ≤ hwe h i ∧ hwe h i ≤ 9) ∧ (∀ i, i < hJ h → hjv h i < hV h ∧ hjs h i < 256 ∧ -9 ≤ hjw h i ∧ hjw h i ≤ 9)
/-- the class's hall at the place q -/
def HC (q : Nat) (d : zD) (h : Hl) : Prop := (d q 0 = hB h ∧ d q 1 = hQ h ∧ d q 2 = hS h ∧ d q 3 = hN h ∧ d q 4 = hV h ∧ d q 5 = hJ h) ∧
  (∀ i, i < hN h → d (q + 1) i = hso h i ∧ d (q + 2) i = hpa h i ∧ d (q + 3) i = hpl h i ∧ d (q + 4) i = hmi h i) ∧ (∀ i, i < 8 * hV h → d (q + 5) i = hwe h i) ∧
  (∀ i, i < hJ h → d (q + 6) i = hjv h i ∧ d (q + 7) i = hjs h i ∧ d (q + 8) i = hjw h i)
theorem HC.of {q : Nat} {d d' : zD} {h : Hl} (H : HC q d h) (e : ∀ p, q ≤ p → p ≤ q + 8 → d' p = d p) : HC q d' h := by
  obtain ⟨h1, h2, h3, h4⟩ := H
  refine ⟨?_, fun i hi => ?_, fun i hi => ?_, fun i hi => ?_⟩
  · rw [e q (by omega) (by omega)]; exact h1
  · rw [e _ (by omega) (by omega), e _ (by omega) (by omega), e _ (by omega) (by omega), e _ (by omega) (by omega)]; exact h2 i hi
  · rw [e _ (by omega) (by omega)]; exact h3 i hi
  · rw [e _ (by omega) (by omega), e _ (by omega) (by omega), e _ (by omega) (by omega)]; exact h4 i hi
def quotaF (h : Hl) : Nat := if 0 < hQ h then hQ h else hV h / 2 + 1
def plusN (h : Hl) (m s : Nat) : Nat → Nat
  | 0 => hpl h m
  | k + 1 => if hso h k = 3 ∧ hpa h k = m ∧ s.testBit k = true then nd (plusN h m s k) (hmi h k) ||| hpl h k else plusN h m s k
def plusF (h : Hl) (m s : Nat) : Nat := plusN h m s (hN h)
def subOn (h : Hl) (s : Nat) : Bool := decide (0 ≤ hS h) && s.testBit (hS h).toNat
def fsort (h : Hl) (s : Nat) : Nat := if subOn h s = true then 2 else 0
def formN (h : Hl) (s : Nat) : Nat → Nat
  | 0 => if subOn h s = true then hpl h (hS h).toNat else hB h
  | k + 1 => if hso h k = fsort h s ∧ s.testBit k = true then nd (formN h s k) (hmi h k) ||| plusF h k s else formN h s k
def formF (h : Hl) (s : Nat) : Nat := formN h s (hN h)
theorem plusN_lt {h : Hl} (w : Wf h) {m : Nat} (hm : m < hN h) (s : Nat) : ∀ k, k ≤ hN h → plusN h m s k < 2 ^ 8
  | 0, _ => (w.2.2.2.2.2.2.1 m hm).2.1
  | k + 1, hk => by
    have ih := plusN_lt w hm s k (by omega)
    simp only [plusN]
    split
    · exact or_lt (nd_lt ih) (w.2.2.2.2.2.2.1 k (by omega)).2.1
    · exact ih
theorem plusF_lt {h : Hl} (w : Wf h) {m : Nat} (hm : m < hN h) (s : Nat) : plusF h m s < 2 ^ 8 := plusN_lt w hm s _ (Nat.le_refl _)
theorem formN_lt {h : Hl} (w : Wf h) (s : Nat) : ∀ k, k ≤ hN h → formN h s k < 2 ^ 8
  | 0, _ => by
    simp only [formN]
    split
    · rename_i hs
      simp only [subOn, Bool.and_eq_true, decide_eq_true_eq] at hs
      have hS1 := w.2.2.2.2.2.1
      exact (w.2.2.2.2.2.2.1 (hS h).toNat (by omega)).2.1
    · exact w.1
  | k + 1, hk => by
    have ih := formN_lt w s k (by omega)
    simp only [formN]
    split
    · exact or_lt (nd_lt ih) (plusF_lt w (m := k) (by omega) s)
    · exact ih
theorem formF_lt {h : Hl} (w : Wf h) (s : Nat) : formF h s < 2 ^ 8 := formN_lt w s _ (Nat.le_refl _)
theorem zret_b {d : zD} {b c : Bool} (h : b = c) : zpu (zi (zb c)) d (some (zi (zb b))) d := ⟨by rw [h], rfl⟩
theorem zret_i {d : zD} {a b : Int} (h : a = b) : zpu (zi b) d (some (zi a)) d := ⟨by rw [h], rfl⟩
theorem pow_le_30 {k : Nat} (h : k ≤ 30) : 2 ^ k ≤ 1073741824 := Nat.pow_le_pow_right (by decide) h (n := 2)
theorem zdiv {a b : Nat} (ha : a < 2147483648) (h0 : 0 < b) (hb : b < 2147483648) : Int32.ofInt (a : Int) / Int32.ofInt (b : Int) = Int32.ofInt ((a / b : Nat) : Int) := by
  rw [zn, zn, zn]; exact pk_div ha h0 hb
theorem zrem {a b : Nat} (ha : a < 2147483648) (h0 : 0 < b) (hb : b < 2147483648) : Int32.ofInt (a : Int) - Int32.ofInt (a : Int) / Int32.ofInt (b : Int) * Int32.ofInt (b : Int) = Int32.ofInt ((a % b : Nat) : Int) := by
  rw [zn, zn, zn]; exact pk_rem ha h0 hb
