/-- a walk of k debts from pl to b -/
def wB (E : Nat → Nat → Bool) (pl : Nat) : Nat → Nat → Bool
  | 0, b => decide (b = pl)
  | k + 1, b => (List.range 5).any (fun a => wB E pl k a && E a b)
theorem wB_s {E : Nat → Nat → Bool} {pl k b : Nat} : wB E pl (k + 1) b = true ↔ ∃ a, a < 5 ∧ wB E pl k a = true ∧ E a b = true := by
  show (List.range 5).any (fun a => wB E pl k a && E a b) = true ↔ _
  rw [List.any_eq_true]
  constructor
  · rintro ⟨a, h1, h2⟩
    rw [Bool.and_eq_true] at h2
    exact ⟨a, List.mem_range.mp h1, h2.1, h2.2⟩
  · rintro ⟨a, h1, h2, h3⟩
    exact ⟨a, List.mem_range.mpr h1, by rw [h2, h3]; rfl⟩
def eOk (E : Nat → Nat → Bool) (p : Nat) : Prop := ∀ a b, a < 5 → b < 5 → E a b = true → a < p ∧ b < p ∧ a ≠ b
-- the class
theorem bk_s {E : Nat → Nat → Bool} {p pl k : Nat} (p5 : p ≤ 5) (hE : eOk E p) {set : Fin 32} (h : ∀ b, b < p → in_S set.val b = wB E pl k b) : ∀ b, b < p → in_S (ow_N E p set).val b = wB E pl (k + 1) b := by
  intro b hb
  rw [Bool.eq_iff_iff, ow_in p5 set hb, wB_s]
  constructor
  · rintro ⟨a, h1, h2, h3⟩
    exact ⟨a, by omega, by rw [← h a h1]; exact h2, h3⟩
  · rintro ⟨a, h1, h2, h3⟩
    have ha := (hE a b h1 (by omega) h3).1
    exact ⟨a, ha, by rw [h a ha]; exact h2, h3⟩
theorem rgC_sp {E : Nat → Nat → Bool} {p pl : Nat} (p5 : p ≤ 5) (hE : eOk E p) (hpl : pl < p) : ∀ (j d : Nat) (set : Fin 32), (∀ b, b < p → in_S set.val b = wB E pl d b) → (∃ e, d + 1 ≤ e ∧ e < d + 1 + j ∧ wB E pl e pl = true ∧ (∀ c, d + 1 ≤ c → c < e → wB E pl c pl = false) ∧ rg_C E p pl j (d + 1) set = nI e) ∨ ((∀ c, d + 1 ≤ c → c < d + 1 + j → wB E pl c pl = false) ∧ rg_C E p pl j (d + 1) set = -1) := by
  intro j
  induction j with
  | zero =>
    intro d set h
    exact .inr ⟨fun c h1 h2 => by omega, rfl⟩
  | succ j ih =>
    intro d set h
    have h2 := bk_s p5 hE h
    have h3 := h2 pl hpl
    show (∃ e, d + 1 ≤ e ∧ e < d + 1 + (j + 1) ∧ wB E pl e pl = true ∧ (∀ c, d + 1 ≤ c → c < e → wB E pl c pl = false) ∧ (if in_S (ow_N E p set).val pl then nI (d + 1) else rg_C E p pl j (d + 1 + 1) (ow_N E p set)) = nI e) ∨ ((∀ c, d + 1 ≤ c → c < d + 1 + (j + 1) → wB E pl c pl = false) ∧ (if in_S (ow_N E p set).val pl then nI (d + 1) else rg_C E p pl j (d + 1 + 1) (ow_N E p set)) = -1)
    cases hb : wB E pl (d + 1) pl with
    | true =>
      rw [h3, hb, if_pos rfl]
      exact .inl ⟨d + 1, by omega, by omega, hb, fun c h1 h2 => by omega, rfl⟩
    | false =>
      rw [h3, hb, if_neg (by decide)]
      rcases ih (d + 1) _ h2 with ⟨e, g1, g2, g3, g4, g5⟩ | ⟨g1, g2⟩
      · refine .inl ⟨e, by omega, by omega, g3, fun c h1 h2 => ?_, g5⟩
        by_cases z : c = d + 1
        · rw [z]; exact hb
        · exact g4 c (by omega) h2
      · refine .inr ⟨fun c h1 h2 => ?_, g2⟩
        by_cases z : c = d + 1
        · rw [z]; exact hb
        · exact g1 c (by omega) (by omega)
-- pigeons
def cnB (f : Nat → Bool) : Nat → Nat
  | 0 => 0
  | n + 1 => cnB f n + (if f n then 1 else 0)
theorem cnB_le (f : Nat → Bool) : ∀ n, cnB f n ≤ n := by
  intro n
  induction n with
  | zero => exact Nat.le_refl 0
  | succ n ih =>
    show cnB f n + (if f n then 1 else 0) ≤ n + 1
    split <;> omega
theorem cnB_mono {f g : Nat → Bool} : ∀ n, (∀ b, b < n → f b = true → g b = true) → cnB f n ≤ cnB g n ∧ ((∃ b, b < n ∧ f b = false ∧ g b = true) → cnB f n < cnB g n) := by
  intro n
  induction n with
  | zero => exact fun _ => ⟨Nat.le_refl 0, fun ⟨b, hb, _⟩ => by omega⟩
  | succ n ih =>
    intro h
    obtain ⟨i1, i2⟩ := ih (fun b hb => h b (by omega))
    have hn := h n (by omega)
    show cnB f n + (if f n then 1 else 0) ≤ cnB g n + (if g n then 1 else 0) ∧ (_ → cnB f n + (if f n then 1 else 0) < cnB g n + (if g n then 1 else 0))
    have e : (if f n then 1 else 0) ≤ (if g n then 1 else 0) := by
      cases hf : f n with
      | false => rw [if_neg (by decide)]; exact Nat.zero_le _
      | true => rw [hn hf]; exact Nat.le_refl _
    refine ⟨by omega, ?_⟩
    rintro ⟨b, h1, h2, h3⟩
    by_cases z : b = n
    · subst z
      rw [h2, h3, if_neg (by decide), if_pos rfl]
      omega
    · have := i2 ⟨b, by omega, h2, h3⟩
      omega
def uB (E : Nat → Nat → Bool) (pl k b : Nat) : Bool := (List.range k).any (fun i => wB E pl (i + 1) b)
theorem uB_i {E : Nat → Nat → Bool} {pl k b : Nat} : uB E pl k b = true ↔ ∃ i, 1 ≤ i ∧ i ≤ k ∧ wB E pl i b = true := by
  unfold uB
  rw [List.any_eq_true]
  constructor
  · rintro ⟨a, h1, h2⟩
    have := List.mem_range.mp h1
    exact ⟨a + 1, by omega, by omega, h2⟩
  · rintro ⟨i, h1, h2, h3⟩
    exact ⟨i - 1, List.mem_range.mpr (by omega), by rw [show i - 1 + 1 = i by omega]; exact h3⟩
def stB (E : Nat → Nat → Bool) (p pl k : Nat) : Prop := ∀ b, b < p → uB E pl (k + 1) b = true → uB E pl k b = true
theorem st_all {E : Nat → Nat → Bool} {p pl k : Nat} (p5 : p ≤ 5) (hE : eOk E p) (h : stB E p pl k) : ∀ i b, b < p → wB E pl (i + 1) b = true → uB E pl k b = true := by
  intro i
  induction i with
  | zero => intro b hb hw; exact h b hb (uB_i.mpr ⟨1, by omega, by omega, hw⟩)
  | succ i ih =>
    intro b hb hw
    obtain ⟨a, h1, h2, h3⟩ := wB_s.mp hw
    have ha := (hE a b h1 (by omega) h3).1
    obtain ⟨c, c1, c2, c3⟩ := uB_i.mp (ih a ha h2)
    exact h b hb (uB_i.mpr ⟨c + 1, by omega, by omega, wB_s.mpr ⟨a, h1, c3, h3⟩⟩)
theorem st_ex {E : Nat → Nat → Bool} {p pl : Nat} : ∀ k, (∃ c, c < k ∧ stB E p pl c) ∨ k ≤ cnB (uB E pl k) p := by
  intro k
  induction k with
  | zero => exact .inr (Nat.zero_le _)
  | succ k ih =>
    rcases ih with ⟨c, h1, h2⟩ | h
    · exact .inl ⟨c, by omega, h2⟩
    · have hm : ∀ b, b < p → uB E pl k b = true → uB E pl (k + 1) b = true := by
        intro b _ hu
        obtain ⟨i, i1, i2, i3⟩ := uB_i.mp hu
        exact uB_i.mpr ⟨i, i1, by omega, i3⟩
      obtain ⟨-, m2⟩ := cnB_mono p hm
      by_cases z : stB E p pl k
      · exact .inl ⟨k, by omega, z⟩
      · have : ∃ b, b < p ∧ uB E pl k b = false ∧ uB E pl (k + 1) b = true := by
          apply Classical.byContradiction
          intro hn
          apply z
          intro b hb hu
          cases hk : uB E pl k b with
          | true => rfl
          | false => exact absurd ⟨b, hb, hk, hu⟩ hn
        have := m2 this
        exact .inr (by omega)
theorem wB_short {E : Nat → Nat → Bool} {p pl m b : Nat} (p5 : p ≤ 5) (hE : eOk E p) (hb : b < p) (hm : 1 ≤ m) (hw : wB E pl m b = true) : ∃ i, 1 ≤ i ∧ i ≤ p ∧ wB E pl i b = true := by
  rcases st_ex (E := E) (p := p) (pl := pl) (p + 1) with ⟨c, h1, h2⟩ | h
  · have := st_all p5 hE h2 (m - 1) b hb (by rw [show m - 1 + 1 = m by omega]; exact hw)
    obtain ⟨i, i1, i2, i3⟩ := uB_i.mp this
    exact ⟨i, i1, by omega, i3⟩
  · have := cnB_le (uB E pl (p + 1)) p
    omega
-- the reference, in plain numbers
def nf_F (E : Nat → Nat → Bool) (pl k : Nat) (y : (Nat → Nat) × Nat) : (Nat → Nat) × Nat :=
  (fun c => if c = k % 5 ∧ E (k / 5) (k % 5) = true then min (y.1 (k % 5)) (y.1 (k / 5) + 1) else y.1 c, if E (k / 5) (k % 5) = true ∧ k % 5 = pl then min y.2 (y.1 (k / 5) + 1) else y.2)
theorem nf_mono {E : Nat → Nat → Bool} {pl k : Nat} (y : (Nat → Nat) × Nat) : (∀ c, (nf_F E pl k y).1 c ≤ y.1 c) ∧ (nf_F E pl k y).2 ≤ y.2 := by
  unfold nf_F
  refine ⟨fun c => ?_, ?_⟩
  · show (if c = k % 5 ∧ E (k / 5) (k % 5) = true then min (y.1 (k % 5)) (y.1 (k / 5) + 1) else y.1 c) ≤ y.1 c
    split
    · next h => rw [h.1]; exact Nat.min_le_left _ _
    · exact Nat.le_refl _
  · show (if E (k / 5) (k % 5) = true ∧ k % 5 = pl then min y.2 (y.1 (k / 5) + 1) else y.2) ≤ y.2
    split
    · exact Nat.min_le_left _ _
    · exact Nat.le_refl _
theorem nfs_mono {E : Nat → Nat → Bool} {pl : Nat} : ∀ (j k : Nat) (y : (Nat → Nat) × Nat), (∀ c, (itr (nf_F E pl) j k y).1 c ≤ y.1 c) ∧ (itr (nf_F E pl) j k y).2 ≤ y.2 := by
  intro j
  induction j with
  | zero => intro k y; exact ⟨fun c => Nat.le_refl _, Nat.le_refl _⟩
  | succ j ih =>
    intro k y
    obtain ⟨a, b⟩ := ih (k + 1) (nf_F E pl k y)
    obtain ⟨c, d⟩ := nf_mono (E := E) (pl := pl) (k := k) y
    exact ⟨fun i => Nat.le_trans (a i) (c i), Nat.le_trans b d⟩
theorem nf_hit {E : Nat → Nat → Bool} {pl a b : Nat} (hb : b < 5) (he : E a b = true) : ∀ (j k : Nat) (y : (Nat → Nat) × Nat), k ≤ 5 * a + b → 5 * a + b < k + j → (itr (nf_F E pl) j k y).1 b ≤ y.1 a + 1 ∧ (b = pl → (itr (nf_F E pl) j k y).2 ≤ y.1 a + 1) := by
  intro j
  induction j with
  | zero => intro k y h1 h2; omega
  | succ j ih =>
    intro k y h1 h2
    show (itr (nf_F E pl) j (k + 1) (nf_F E pl k y)).1 b ≤ y.1 a + 1 ∧ (b = pl → (itr (nf_F E pl) j (k + 1) (nf_F E pl k y)).2 ≤ y.1 a + 1)
    by_cases z : k = 5 * a + b
    · have ka : k / 5 = a := by omega
      have kb : k % 5 = b := by omega
      obtain ⟨m1, m2⟩ := nfs_mono (E := E) (pl := pl) j (k + 1) (nf_F E pl k y)
      have n1 : (nf_F E pl k y).1 b ≤ y.1 a + 1 := by
        unfold nf_F
        rw [ka, kb]
        show (if b = b ∧ E a b = true then min (y.1 b) (y.1 a + 1) else y.1 b) ≤ y.1 a + 1
        rw [if_pos ⟨rfl, he⟩]
        exact Nat.min_le_right _ _
      refine ⟨Nat.le_trans (m1 b) n1, fun hp => Nat.le_trans m2 ?_⟩
      unfold nf_F
      rw [ka, kb]
      show (if E a b = true ∧ b = pl then min y.2 (y.1 a + 1) else y.2) ≤ y.1 a + 1
      rw [if_pos ⟨he, hp⟩]
      exact Nat.min_le_right _ _
    · obtain ⟨i1, i2⟩ := ih (k + 1) (nf_F E pl k y) (by omega) (by omega)
      have m := (nf_mono (E := E) (pl := pl) (k := k) y).1 a
      exact ⟨by omega, fun hp => by have := i2 hp; omega⟩
def sndN (E : Nat → Nat → Bool) (pl : Nat) (y : (Nat → Nat) × Nat) : Prop := (∀ b, b < 5 → y.1 b < 99 → wB E pl (y.1 b) b = true) ∧ (y.2 < 99 → 1 ≤ y.2 ∧ wB E pl y.2 pl = true)
theorem nf_snd {E : Nat → Nat → Bool} {pl k : Nat} (hk : k < 25) {y : (Nat → Nat) × Nat} (h : sndN E pl y) : sndN E pl (nf_F E pl k y) := by
  obtain ⟨h1, h2⟩ := h
  have ka : k / 5 < 5 := by omega
  unfold nf_F sndN
  refine ⟨fun b hb => ?_, ?_⟩
  · show (if b = k % 5 ∧ E (k / 5) (k % 5) = true then min (y.1 (k % 5)) (y.1 (k / 5) + 1) else y.1 b) < 99 → wB E pl (if b = k % 5 ∧ E (k / 5) (k % 5) = true then min (y.1 (k % 5)) (y.1 (k / 5) + 1) else y.1 b) b = true
    split
    · next e =>
      rw [← e.1] at *
      intro hl
      rcases Nat.le_total (y.1 b) (y.1 (k / 5) + 1) with z | z
      · rw [Nat.min_eq_left z] at hl ⊢; exact h1 b hb hl
      · rw [Nat.min_eq_right z] at hl ⊢; exact wB_s.mpr ⟨k / 5, ka, h1 (k / 5) ka (by omega), e.2⟩
    · exact h1 b hb
  · show (if E (k / 5) (k % 5) = true ∧ k % 5 = pl then min y.2 (y.1 (k / 5) + 1) else y.2) < 99 → 1 ≤ (if E (k / 5) (k % 5) = true ∧ k % 5 = pl then min y.2 (y.1 (k / 5) + 1) else y.2) ∧ wB E pl (if E (k / 5) (k % 5) = true ∧ k % 5 = pl then min y.2 (y.1 (k / 5) + 1) else y.2) pl = true
    split
    · next e =>
      intro hl
      rcases Nat.le_total y.2 (y.1 (k / 5) + 1) with z | z
      · rw [Nat.min_eq_left z] at hl ⊢; exact h2 hl
      · rw [Nat.min_eq_right z] at hl ⊢
        refine ⟨by omega, wB_s.mpr ⟨k / 5, ka, h1 (k / 5) ka (by omega), ?_⟩⟩
        rw [← e.2]; exact e.1
    · exact h2
theorem nfs_snd {E : Nat → Nat → Bool} {pl : Nat} : ∀ (j k : Nat) (y : (Nat → Nat) × Nat), k + j ≤ 25 → sndN E pl y → sndN E pl (itr (nf_F E pl) j k y) := by
  intro j
  induction j with
  | zero => intro k y _ h; exact h
  | succ j ih => intro k y hk h; exact ih (k + 1) _ (by omega) (nf_snd (by omega) h)
def cmN (E : Nat → Nat → Bool) (pl i : Nat) (y : (Nat → Nat) × Nat) : Prop := ∀ k b, k ≤ i → b < 5 → wB E pl k b = true → y.1 b ≤ k ∧ (1 ≤ k → b = pl → y.2 ≤ k)
theorem cm_s {E : Nat → Nat → Bool} {pl i : Nat} {y : (Nat → Nat) × Nat} (h : cmN E pl i y) : cmN E pl (i + 1) (itr (nf_F E pl) 25 0 y) := by
  intro k b hk hb hw
  obtain ⟨m1, m2⟩ := nfs_mono (E := E) (pl := pl) 25 0 y
  by_cases z : k ≤ i
  · obtain ⟨g1, g2⟩ := h k b z hb hw
    exact ⟨Nat.le_trans (m1 b) g1, fun q r => Nat.le_trans m2 (g2 q r)⟩
  · have e : k = i + 1 := by omega
    subst e
    obtain ⟨a, a5, ha, he⟩ := wB_s.mp hw
    have g := (h i a (Nat.le_refl _) a5 ha).1
    obtain ⟨n1, n2⟩ := nf_hit (pl := pl) hb he 25 0 y (by omega) (by omega)
    exact ⟨by omega, fun _ r => by have := n2 r; omega⟩
