/-- the best of the first i choices: 0 none (if none can be), b + 1 the BED b -/
def tn_acc (gate B : Nat) (pa : Nat → Option Nat) (d : Nat) (r : List Nat) (s : Nat) (ch : List Nat → Nat) : Nat → Option Nat
  | 0 => none
  | i + 1 => if i = 0 then (if gd_cw gate pa r s B = true then tn_acc gate B pa d r s ch i else some (tn_k d (tn_acc gate B pa d r s ch i) (ch r))) else if gd_wy gate pa r s (i - 1) = 0 then some (tn_k d (tn_acc gate B pa d r s ch i) (ch (tn_o r (some (i - 1))))) else tn_acc gate B pa d r s ch i
/-- the MORNING on which the BED blooms, both doing their best, d MORNINGS having gone -/
def tn_v (law gate B : Nat) (pa : Nat → Option Nat) (bed : Nat) : Nat → Nat → List Nat → Nat → Nat
  | 0, d, _, _ => d
  | f + 1, d, r, s => (tn_acc gate B pa d r s (fun r1 => if (gd_mo law r1 s).2.testBit bed = true then d + 1 else tn_v law gate B pa bed f (d + 1) (gd_mo law r1 s).1 (gd_mo law r1 s).2) (B + 1)).getD 0
abbrev tn_c (law gate B : Nat) (pa : Nat → Option Nat) (bed f d s : Nat) (r1 : List Nat) : Nat := if (gd_mo law r1 s).2.testBit bed = true then d + 1 else tn_v law gate B pa bed f (d + 1) (gd_mo law r1 s).1 (gd_mo law r1 s).2
theorem tn_k_le {d v M : Nat} {acc : Option Nat} (h1 : ∀ a, acc = some a → a ≤ M) (h2 : v ≤ M) : tn_k d acc v ≤ M := by
  cases acc with
  | none => exact h2
  | some a =>
    have := h1 a rfl
    rw [tn_k_some]
    repeat' split
    all_goals omega
theorem tn_acc_le {gate B : Nat} {pa : Nat → Option Nat} {d : Nat} {r : List Nat} {s M : Nat} {ch : List Nat → Nat} (h : ∀ x, ch x ≤ M) : ∀ i a, tn_acc gate B pa d r s ch i = some a → a ≤ M := by
  intro i
  induction i with
  | zero => intro a ha; cases ha
  | succ i ih =>
    intro a ha
    unfold tn_acc at ha
    repeat' split at ha
    · exact ih a ha
    · cases ha; exact tn_k_le ih (h _)
    · cases ha; exact tn_k_le ih (h _)
    · exact ih a ha
theorem tn_v_le {law gate B : Nat} {pa : Nat → Option Nat} {bed : Nat} : ∀ (f d : Nat) (r : List Nat) (s : Nat), tn_v law gate B pa bed f d r s ≤ d + f := by
  intro f
  induction f with
  | zero => intro d r s; exact Nat.le_refl _
  | succ f ih =>
    intro d r s
    unfold tn_v
    have hc : ∀ x, tn_c law gate B pa bed f d s x ≤ d + (f + 1) := by
      intro x
      unfold tn_c
      split
      · omega
      · have := ih (d + 1) (gd_mo law x s).1 (gd_mo law x s).2
        omega
    cases hh : tn_acc gate B pa d r s (fun r1 => if (gd_mo law r1 s).2.testBit bed = true then d + 1 else tn_v law gate B pa bed f (d + 1) (gd_mo law r1 s).1 (gd_mo law r1 s).2) (B + 1) with
    | none => exact Nat.zero_le _
    | some a => exact tn_acc_le hc _ _ hh
theorem gd_cw_iff {gate : Nat} {pa : Nat → Option Nat} {r : List Nat} {s : Nat} : ∀ n, gd_cw gate pa r s n = true ↔ ∃ b, b < n ∧ gd_wy gate pa r s b = 0 := by
  intro n
  induction n with
  | zero => simp [gd_cw]
  | succ n ih =>
    simp only [gd_cw]
    rw [Bool.or_eq_true, ih, decide_eq_true_iff]
    constructor
    · rintro (⟨b, h1, h2⟩ | h)
      · exact ⟨b, by omega, h2⟩
      · exact ⟨n, by omega, h⟩
    · rintro ⟨b, h1, h2⟩
      rcases Nat.lt_or_ge b n with q | q
      · exact Or.inl ⟨b, q, h2⟩
      · have : b = n := by omega
        subst this
        exact Or.inr h2
/-- with an empty row some BED can be watered, as long as one has not BLOOMED -/
theorem gd_cw_nil {gate B : Nat} {pa : Nat → Option Nat} {s : Nat} (hg : 1 ≤ gate) (hpa : ∀ b o, b < 6 → pa b = some o → b < B ∧ o < B) (hB : B ≤ 6) : ∀ (k b : Nat), b < B → ¬ s.testBit b = true → gd_dd pa k b → gd_cw gate pa [] s B = true := by
  intro k
  induction k with
  | zero => intro b _ _ h; exact absurd h (fun q => q)
  | succ k ih =>
    intro b hb hs hdd
    cases hp : pa b with
    | none =>
      exact (gd_cw_iff B).mpr ⟨b, hb, gd_wyn hs (by rintro ⟨-, q⟩; simp at q; omega) hp⟩
    | some o =>
      have ho := (hpa b o (by omega) hp).2
      by_cases h1 : s.testBit o = true
      · exact (gd_cw_iff B).mpr ⟨b, hb, gd_wy0 hs (by rintro ⟨-, q⟩; simp at q; omega) hp (Or.inr h1)⟩
      · exact ih o ho h1 (hdd o hp)
theorem tn_acc_some {gate B : Nat} {pa : Nat → Option Nat} {d : Nat} {r : List Nat} {s : Nat} {ch : List Nat → Nat} : tn_acc gate B pa d r s ch (B + 1) ≠ none := by
  have mono : ∀ i j, tn_acc gate B pa d r s ch i ≠ none → tn_acc gate B pa d r s ch (i + j) ≠ none := by
    intro i j
    induction j with
    | zero => exact fun h => h
    | succ j ih =>
      intro h
      have := ih h
      rw [show i + (j + 1) = (i + j) + 1 by omega]
      unfold tn_acc
      repeat' split
      · exact this
      · intro q; cases q
      · intro q; cases q
      · exact this
  by_cases h : gd_cw gate pa r s B = true
  · obtain ⟨b, hb, hw⟩ := (gd_cw_iff B).mp h
    have h1 : tn_acc gate B pa d r s ch (b + 1 + 1) ≠ none := by
      rw [tn_acc, if_neg (by omega), if_pos (by rw [Nat.add_sub_cancel]; exact hw)]
      intro q; cases q
    have := mono (b + 1 + 1) (B - 1 - b) h1
    rw [show b + 1 + 1 + (B - 1 - b) = B + 1 by omega] at this
    exact this
  · have h1 : tn_acc gate B pa d r s ch (0 + 1) ≠ none := by
      rw [tn_acc, if_pos rfl, if_neg h]
      intro q; cases q
    have := mono (0 + 1) B h1
    rw [show 0 + 1 + B = B + 1 by omega] at this
    exact this
theorem gd_rn_bl {s b : Nat} (hs : s.testBit b = false) : ∀ n, (gd_rn (s ||| 2 ^ b) n).length + (if b < n then 1 else 0) = (gd_rn s n).length := by
  intro n
  induction n with
  | zero => rfl
  | succ n ih =>
    simp only [gd_rn]
    rw [tb_set]
    by_cases h : b = n
    · subst h
      rw [hs]
      rw [if_neg (show ¬ b < b by omega)] at ih
      rw [if_pos (show (false || decide (b = b)) = true by simp), if_pos (show b < b + 1 by omega), if_neg (show ¬ (false = true) by decide), List.length_cons]
      omega
    · rw [decide_eq_false h, Bool.or_false]
      by_cases h2 : s.testBit n = true
      · rw [if_pos h2, if_pos h2]
        by_cases h3 : b < n
        · rw [if_pos h3] at ih; rw [if_pos (by omega)]; exact ih
        · rw [if_neg h3] at ih; rw [if_neg (by omega)]; exact ih
      · rw [if_neg h2, if_neg h2, List.length_cons, List.length_cons]
        by_cases h3 : b < n
        · rw [if_pos h3] at ih; rw [if_pos (by omega)]; omega
        · rw [if_neg h3] at ih; rw [if_neg (by omega)]; omega
/-- behind a MORNING of a row that isn't empty -/
theorem gd_mo_ok {law B : Nat} {r : List Nat} {s : Nat} (hR : rOK B r s) (hne : r ≠ []) : rOK B (gd_mo law r s).1 (gd_mo law r s).2 ∧ (gd_rn (gd_mo law r s).2 B).length + 1 = (gd_rn s B).length := by
  unfold gd_mo
  cases h : gd_nx law r with
  | none => exact absurd (gd_nx_none h) hne
  | some b =>
    have hb := gd_nx_mem h
    have h2 := hR.2.1 b hb
    refine ⟨rOK_bloom hR hb, ?_⟩
    have := gd_rn_bl (b := b) h2.2 B
    rw [if_pos h2.1] at this
    exact this
/-- the reference's stack below d stays -/
def tnF (d : Nat) (mu mu' : pm_I) : Prop := (∀ a, a < 34 ∨ 38 ≤ a → mu' a = mu a) ∧ (∀ k, k ≤ d → mu' 34 k = mu 34 k ∧ mu' 35 k = mu 35 k) ∧ ∀ k, k < d → mu' 36 k = mu 36 k ∧ mu' 37 k = mu 37 k
theorem tnF.rf {d : Nat} {mu : pm_I} : tnF d mu mu := ⟨fun _ _ => rfl, fun _ _ => ⟨rfl, rfl⟩, fun _ _ => ⟨rfl, rfl⟩⟩
theorem tnF.tr {d : Nat} {mu mu2 mu3 : pm_I} (h : tnF d mu mu2) (h2 : tnF d mu2 mu3) : tnF d mu mu3 :=
  ⟨fun a ha => (h2.1 a ha).trans (h.1 a ha), fun k hk => ⟨(h2.2.1 k hk).1.trans (h.2.1 k hk).1, (h2.2.1 k hk).2.trans (h.2.1 k hk).2⟩, fun k hk => ⟨(h2.2.2 k hk).1.trans (h.2.2 k hk).1, (h2.2.2 k hk).2.trans (h.2.2 k hk).2⟩⟩
theorem tnF.dn {d : Nat} {mu mu' : pm_I} (h : tnF (d + 1) mu mu') : tnF d mu mu' := ⟨h.1, fun k hk => h.2.1 k (by omega), fun k hk => h.2.2 k (by omega)⟩
theorem tnF.u36 {d : Nat} {mu mu' : pm_I} {v : Int32} (h : tnF d mu mu') : tnF d mu (pm_up mu' 36 d v) := ⟨fun a ha => by rw [pm_up_ne (by omega)]; exact h.1 a ha, fun k hk => by rw [pm_up_o (by omega), pm_up_o (by omega)]; exact h.2.1 k hk, fun k hk => by rw [pm_up_of (by omega), pm_up_o (by omega)]; exact h.2.2 k hk⟩
theorem tnF.u37 {d : Nat} {mu mu' : pm_I} {v : Int32} (h : tnF d mu mu') : tnF d mu (pm_up mu' 37 d v) := ⟨fun a ha => by rw [pm_up_ne (by omega)]; exact h.1 a ha, fun k hk => by rw [pm_up_o (by omega), pm_up_o (by omega)]; exact h.2.1 k hk, fun k hk => by rw [pm_up_o (by omega), pm_up_of (by omega)]; exact h.2.2 k hk⟩
theorem tn_w_F {mu : pm_I} {d : Nat} {x : List Nat × Nat} : tnF d mu (tn_w mu d x) ∧ tn_w mu d x 34 (d + 1) = nI (md_r7 x.1) ∧ tn_w mu d x 35 (d + 1) = nI x.2 ∧ tn_w mu d x 36 (d + 1) = 0 ∧ tn_w mu d x 37 (d + 1) = -6 ∧ tn_w mu d x 36 d = mu 36 d ∧ tn_w mu d x 37 d = mu 37 d := by
  unfold tn_w
  refine ⟨⟨fun a ha => ?_, fun k hk => ⟨?_, ?_⟩, fun k hk => ⟨?_, ?_⟩⟩, ?_, ?_, ?_, pm_up_at, ?_, ?_⟩
  · rw [pm_up_ne (by omega), pm_up_ne (by omega), pm_up_ne (by omega), pm_up_ne (by omega)]
  · rw [pm_up_o (by omega), pm_up_o (by omega), pm_up_o (by omega), pm_up_of (by omega)]
  · rw [pm_up_o (by omega), pm_up_o (by omega), pm_up_of (by omega), pm_up_o (by omega)]
  · rw [pm_up_o (by omega), pm_up_of (by omega), pm_up_o (by omega), pm_up_o (by omega)]
  · rw [pm_up_of (by omega), pm_up_o (by omega), pm_up_o (by omega), pm_up_o (by omega)]
  · rw [pm_up_o (by omega), pm_up_o (by omega), pm_up_o (by omega), pm_up_at]
  · rw [pm_up_o (by omega), pm_up_o (by omega), pm_up_at]
  · rw [pm_up_o (by omega), pm_up_at]
  · rw [pm_up_o (by omega), pm_up_of (by omega), pm_up_o (by omega), pm_up_o (by omega)]
  · rw [pm_up_of (by omega), pm_up_o (by omega), pm_up_o (by omega), pm_up_o (by omega)]
