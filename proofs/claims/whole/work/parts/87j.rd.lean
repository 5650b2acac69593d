/-! ===== a word packed into a long is the word ===== -/
def vN (f : Nat → Nat) : Nat → Nat
  | 0 => 0
  | r + 1 => 256 * vN f r + f r
def cN (x : Int32) : Nat := x.toInt.toNat
theorem vN_inj {f g : Nat → Nat} : ∀ n l, (∀ r, r < n → 1 ≤ f r ∧ f r < 256) → (∀ r, r < l → 1 ≤ g r ∧ g r < 256) → vN f n = vN g l → n = l ∧ ∀ r, r < n → f r = g r
  | 0, 0, _, _, _ => ⟨rfl, fun r hr => absurd hr (Nat.not_lt_zero _)⟩
  | 0, l + 1, _, hg, h => by
    have := hg l (by omega)
    have h : 0 = 256 * vN g l + g l := h
    omega
  | n + 1, 0, hf, _, h => by
    have := hf n (by omega)
    have h : 256 * vN f n + f n = 0 := h
    omega
  | n + 1, l + 1, hf, hg, h => by
    have h1 := hf n (by omega)
    have h2 := hg l (by omega)
    have h : 256 * vN f n + f n = 256 * vN g l + g l := h
    have h3 : f n = g l := by omega
    obtain ⟨h4, h5⟩ := vN_inj n l (fun r hr => hf r (by omega)) (fun r hr => hg r (by omega)) (by omega)
    subst h4
    refine ⟨rfl, fun r hr => ?_⟩
    rcases Nat.lt_or_ge r n with h6 | h6
    · exact h5 r h6
    · rw [show r = n by omega]; exact h3
theorem vN_lt {f : Nat → Nat} : ∀ n, (∀ r, r < n → f r < 256) → vN f n < 256 ^ n
  | 0, _ => Nat.one_pos
  | n + 1, hf => by
    have h1 := vN_lt n (fun r hr => hf r (by omega))
    have h2 := hf n (by omega)
    show 256 * vN f n + f n < 256 ^ (n + 1)
    rw [Nat.pow_succ]; omega
theorem vN_congr {f g : Nat → Nat} : ∀ n, (∀ r, r < n → f r = g r) → vN f n = vN g n
  | 0, _ => rfl
  | n + 1, h => by
    show 256 * vN f n + f n = 256 * vN g n + g n
    rw [vN_congr n (fun r hr => h r (by omega)), h n (by omega)]
theorem i64_pack {N c : Nat} (hN : N < 2 ^ 56) (hc : c < 256) : Int64.ofNat N <<< 8 ||| Int64.ofNat c = Int64.ofNat (256 * N + c) := by
  apply Int64.toBitVec_inj.mp
  apply BitVec.eq_of_toNat_eq
  rw [Int64.toBitVec_or, Int64.toBitVec_shiftLeft]
  have e8 : ((8 : Int64).toBitVec.smod 64) = 8#64 := by decide
  rw [e8]
  have h1 : (Int64.ofNat N).toBitVec = BitVec.ofNat 64 N := rfl
  have h2 : (Int64.ofNat c).toBitVec = BitVec.ofNat 64 c := rfl
  have h3 : (Int64.ofNat (256 * N + c)).toBitVec = BitVec.ofNat 64 (256 * N + c) := rfl
  rw [h1, h2, h3, BitVec.toNat_or]
  have h4 : (BitVec.ofNat 64 N <<< 8#64).toNat = N <<< 8 := by
    show (BitVec.ofNat 64 N <<< (8#64).toNat).toNat = _
    rw [BitVec.toNat_shiftLeft, BitVec.toNat_ofNat, Nat.mod_eq_of_lt (by omega : N < 2 ^ 64)]
    show N <<< 8 % 2 ^ 64 = N <<< 8
    rw [Nat.shiftLeft_eq, Nat.mod_eq_of_lt]; omega
  rw [h4, BitVec.toNat_ofNat, BitVec.toNat_ofNat, Nat.mod_eq_of_lt (by omega : c < 2 ^ 64), Nat.mod_eq_of_lt (by omega : 256 * N + c < 2 ^ 64), ← Nat.shiftLeft_add_eq_or_of_lt (by omega : c < 2 ^ 8), Nat.shiftLeft_eq]
  omega
theorem rLet_N {x : Int32} (h : rLet x = true) : 97 ≤ cN x ∧ cN x ≤ 122 ∧ x.toInt64 = Int64.ofNat (cN x) := by
  unfold rLet at h
  simp at h
  obtain ⟨h1, h2⟩ := h
  rw [Int32.le_iff_toInt_le] at h1 h2
  have e1 : (97 : Int32).toInt = 97 := by decide
  have e2 : (122 : Int32).toInt = 122 := by decide
  unfold cN
  refine ⟨by omega, by omega, ?_⟩
  apply Int64.toInt.inj
  rw [Int32.toInt_toInt64]
  have : x.toInt = ((x.toInt.toNat : Nat) : Int) := by omega
  have e3 : (Int64.ofNat x.toInt.toNat).toInt = (x.toInt.toNat : Int) := by
    rw [Int64.toInt_ofNat_of_lt]; omega
  rw [e3]; omega
section WRD
variable {T : Nat → Int32} {i : Nat}
theorem rPk_run : ∀ q r (v : Int64), r + q = 400 → (∀ s, s < r → rLet (T (i + s)) = true) → (r ≤ 8 → v = Int64.ofNat (vN (fun s => cN (T (i + s))) r)) → ∀ p : Nat × Int64, p = jbrk (fun r _ => !rLet (T (i + r))) (fun r (v : Int64) => if r < 8 then v <<< 8 ||| (T (i + r)).toInt64 else v) r q v → (∀ s, s < p.1 → rLet (T (i + s)) = true) ∧ (p.1 < 400 → rLet (T (i + p.1)) = false) ∧ (p.1 ≤ 8 → p.2 = Int64.ofNat (vN (fun s => cN (T (i + s))) p.1))
  | 0, r, v, hr, h1, h2, p, hp => by
    subst hp
    refine ⟨h1, fun h => ?_, h2⟩
    have : r < 400 := h
    omega
  | q + 1, r, v, hr, h1, h2, p, hp => by
    unfold jbrk at hp
    cases e : rLet (T (i + r))
    · rw [e, if_pos (by simp)] at hp
      subst hp
      exact ⟨h1, fun _ => e, h2⟩
    · rw [e, if_neg (by simp)] at hp
      refine rPk_run q (r + 1) _ (by omega) (fun s hs => ?_) (fun h8 => ?_) p hp
      · rcases Nat.lt_or_ge s r with h6 | h6
        · exact h1 s h6
        · rw [show s = r by omega]; exact e
      · obtain ⟨l1, l2, l3⟩ := rLet_N e
        rw [if_pos (by omega), h2 (by omega), l3]
        refine i64_pack ?_ (by omega)
        have := vN_lt (f := fun s => cN (T (i + s))) r (fun s hs => by have := rLet_N (h1 s hs); show cN _ < 256; omega)
        have h9 : 256 ^ r ≤ 256 ^ 7 := Nat.pow_le_pow_right (by decide) (by omega)
        have : (256 : Nat) ^ 7 = 2 ^ 56 := by decide
        omega
theorem rMat_iff : ∀ (w : List Int32) i, rMat T w i = true ↔ (∀ r, r < w.length → T (i + r) = w.getD r 0) ∧ rLet (T (i + w.length)) = false
  | [], i => by simp [rMat]
  | x :: w, i => by
    show (T i == x && rMat T w (i + 1)) = true ↔ _
    rw [Bool.and_eq_true, rMat_iff w (i + 1), beq_iff_eq]
    simp only [List.length_cons]
    constructor
    · rintro ⟨h1, h2, h3⟩
      refine ⟨fun r hr => ?_, by rw [show i + (w.length + 1) = i + 1 + w.length by omega]; exact h3⟩
      cases r with
      | zero => exact h1
      | succ r => rw [show i + (r + 1) = i + 1 + r by omega]; exact h2 r (by omega)
    · rintro ⟨h1, h2⟩
      refine ⟨h1 0 (by omega), fun r hr => ?_, by rw [show i + 1 + w.length = i + (w.length + 1) by omega]; exact h2⟩
      have := h1 (r + 1) (by omega)
      rw [show i + 1 + r = i + (r + 1) by omega]; exact this
theorem rWord_eq (w : List Int32) (hw : w.length ≤ 7) (h0 : 0 < w.length) (hl : ∀ r, r < w.length → rLet (w.getD r 0) = true) : rPkW T i (Int64.ofNat (vN (fun r => cN (w.getD r 0)) w.length)) = rMat T w i := by
  obtain ⟨p1, p2, p3⟩ := rPk_run (T := T) (i := i) 400 0 0 rfl (fun s hs => absurd hs (Nat.not_lt_zero _)) (fun _ => (by decide : (0 : Int64) = Int64.ofNat 0)) (rPk T i) (by unfold rPk; exact Eq.refl _)
  have hle : (rPk T i).1 ≤ 0 + 400 := (jbrk_le (c := fun r (_ : Int64) => !rLet (T (i + r))) (f := fun r v => if r < 8 then v <<< 8 ||| (T (i + r)).toInt64 else v) 400 0 0).2
  unfold rPkW
  generalize rPk T i = p at *
  rw [Bool.eq_iff_iff, decide_eq_true_iff, rMat_iff]
  have lt7 : ∀ (f : Nat → Nat) n, n ≤ 7 → (∀ r, r < n → f r < 256) → vN f n < 2 ^ 56 := fun f n hn hf => by
    have h1 := vN_lt n hf
    have h9 : 256 ^ n ≤ 256 ^ 7 := Nat.pow_le_pow_right (by decide) hn
    have : (256 : Nat) ^ 7 = 2 ^ 56 := by decide
    omega
  have hT : ∀ s, s < p.1 → 97 ≤ cN (T (i + s)) ∧ cN (T (i + s)) ≤ 122 := fun s hs => ⟨(rLet_N (p1 s hs)).1, (rLet_N (p1 s hs)).2.1⟩
  have hW : ∀ s, s < w.length → 97 ≤ cN (w.getD s 0) ∧ cN (w.getD s 0) ≤ 122 := fun s hs => ⟨(rLet_N (hl s hs)).1, (rLet_N (hl s hs)).2.1⟩
  constructor
  · rintro ⟨h1, h2, h3⟩
    rw [p3 (by omega)] at h3
    have h4 := congrArg Int64.toInt h3
    have a1 := lt7 (fun s => cN (T (i + s))) p.1 (by omega) (fun r hr => by have := hT r hr; show cN _ < 256; omega)
    have a2 := lt7 (fun r => cN (w.getD r 0)) w.length hw (fun r hr => by have := hW r hr; show cN _ < 256; omega)
    rw [Int64.toInt_ofNat_of_lt (by omega), Int64.toInt_ofNat_of_lt (by omega)] at h4
    obtain ⟨b1, b2⟩ := vN_inj (f := fun s => cN (T (i + s))) (g := fun r => cN (w.getD r 0)) p.1 w.length (fun r hr => by have := hT r hr; exact ⟨by show 1 ≤ cN _; omega, by show cN _ < 256; omega⟩) (fun r hr => by have := hW r hr; exact ⟨by show 1 ≤ cN _; omega, by show cN _ < 256; omega⟩) (by omega)
    rw [← b1]
    refine ⟨fun r hr => ?_, p2 (by omega)⟩
    have c1 := (rLet_N (p1 r hr)).2.2
    have c2 := (rLet_N (hl r (by omega))).2.2
    have c3 : cN (T (i + r)) = cN (w.getD r 0) := b2 r hr
    rw [c3, ← c2] at c1
    have c4 := congrArg Int64.toInt c1
    rw [Int32.toInt_toInt64, Int32.toInt_toInt64] at c4
    exact Int32.toInt.inj c4
  · rintro ⟨h1, h2⟩
    have h3 : p.1 = w.length := by
      rcases Nat.lt_trichotomy p.1 w.length with h | h | h
      · have := p2 (by omega)
        rw [h1 p.1 h, hl p.1 h] at this
        exact Bool.noConfusion this
      · exact h
      · have := p1 w.length h
        rw [h2] at this; exact Bool.noConfusion this
    refine ⟨by omega, by omega, ?_⟩
    rw [p3 (by omega), h3]
    exact congrArg Int64.ofNat (vN_congr w.length fun r hr => congrArg cN (h1 r hr))
end WRD
section WRC
variable {T : Nat → Int32} {i : Nat}
theorem rw_pull : rPkW T i 1886743660 = rMat T (jW 0) i := by
  have h := rWord_eq (T := T) (i := i) (jW 0) (by decide) (by decide) (by decide)
  rw [show Int64.ofNat (vN (fun r => cN ((jW 0).getD r 0)) (jW 0).length) = 1886743660 by decide +kernel] at h
  exact h
theorem rw_heat : rPkW T i 1751474548 = rMat T (jW 1) i := by
  have h := rWord_eq (T := T) (i := i) (jW 1) (by decide) (by decide) (by decide)
  rw [show Int64.ofNat (vN (fun r => cN ((jW 1).getD r 0)) (jW 1).length) = 1751474548 by decide +kernel] at h
  exact h
theorem rw_wide : rPkW T i 2003395685 = rMat T (jW 2) i := by
  have h := rWord_eq (T := T) (i := i) (jW 2) (by decide) (by decide) (by decide)
  rw [show Int64.ofNat (vN (fun r => cN ((jW 2).getD r 0)) (jW 2).length) = 2003395685 by decide +kernel] at h
  exact h
theorem rw_swirl : rPkW T i 495924638316 = rMat T (jW 3) i := by
  have h := rWord_eq (T := T) (i := i) (jW 3) (by decide) (by decide) (by decide)
  rw [show Int64.ofNat (vN (fun r => cN ((jW 3).getD r 0)) (jW 3).length) = 495924638316 by decide +kernel] at h
  exact h
theorem rw_late : rPkW T i 1818326117 = rMat T (jW 4) i := by
  have h := rWord_eq (T := T) (i := i) (jW 4) (by decide) (by decide) (by decide)
  rw [show Int64.ofNat (vN (fun r => cN ((jW 4).getD r 0)) (jW 4).length) = 1818326117 by decide +kernel] at h
  exact h
theorem rw_gives : rPkW T i 444150998387 = rMat T (jW 5) i := by
  have h := rWord_eq (T := T) (i := i) (jW 5) (by decide) (by decide) (by decide)
  rw [show Int64.ofNat (vN (fun r => cN ((jW 5).getD r 0)) (jW 5).length) = 444150998387 by decide +kernel] at h
  exact h
theorem rw_minute : rPkW T i 120299592184933 = rMat T (jW 6) i := by
  have h := rWord_eq (T := T) (i := i) (jW 6) (by decide) (by decide) (by decide)
  rw [show Int64.ofNat (vN (fun r => cN ((jW 6).getD r 0)) (jW 6).length) = 120299592184933 by decide +kernel] at h
  exact h
theorem rw_seen : rPkW T i 1936024942 = rMat T (jW 7) i := by
  have h := rWord_eq (T := T) (i := i) (jW 7) (by decide) (by decide) (by decide)
  rw [show Int64.ofNat (vN (fun r => cN ((jW 7).getD r 0)) (jW 7).length) = 1936024942 by decide +kernel] at h
  exact h
theorem rw_was : rPkW T i 7823731 = rMat T (jW 8) i := by
  have h := rWord_eq (T := T) (i := i) (jW 8) (by decide) (by decide) (by decide)
  rw [show Int64.ofNat (vN (fun r => cN ((jW 8).getD r 0)) (jW 8).length) = 7823731 by decide +kernel] at h
  exact h
theorem rw_want : rPkW T i 2002873972 = rMat T (jW 9) i := by
  have h := rWord_eq (T := T) (i := i) (jW 9) (by decide) (by decide) (by decide)
  rw [show Int64.ofNat (vN (fun r => cN ((jW 9).getD r 0)) (jW 9).length) = 2002873972 by decide +kernel] at h
  exact h
theorem rw_left : rPkW T i 1818584692 = rMat T (jW 10) i := by
  have h := rWord_eq (T := T) (i := i) (jW 10) (by decide) (by decide) (by decide)
  rw [show Int64.ofNat (vN (fun r => cN ((jW 10).getD r 0)) (jW 10).length) = 1818584692 by decide +kernel] at h
  exact h
theorem rw_long : rPkW T i 1819242087 = rMat T (jW 11) i := by
  have h := rWord_eq (T := T) (i := i) (jW 11) (by decide) (by decide) (by decide)
  rw [show Int64.ofNat (vN (fun r => cN ((jW 11).getD r 0)) (jW 11).length) = 1819242087 by decide +kernel] at h
  exact h
theorem rw_if : rPkW T i 26982 = rMat T (jW 12) i := by
  have h := rWord_eq (T := T) (i := i) (jW 12) (by decide) (by decide) (by decide)
  rw [show Int64.ofNat (vN (fun r => cN ((jW 12).getD r 0)) (jW 12).length) = 26982 by decide +kernel] at h
  exact h
theorem rw_not : rPkW T i 7237492 = rMat T (jW 13) i := by
  have h := rWord_eq (T := T) (i := i) (jW 13) (by decide) (by decide) (by decide)
  rw [show Int64.ofNat (vN (fun r => cN ((jW 13).getD r 0)) (jW 13).length) = 7237492 by decide +kernel] at h
  exact h
theorem rw_and : rPkW T i 6385252 = rMat T (jW 14) i := by
  have h := rWord_eq (T := T) (i := i) (jW 14) (by decide) (by decide) (by decide)
  rw [show Int64.ofNat (vN (fun r => cN ((jW 14).getD r 0)) (jW 14).length) = 6385252 by decide +kernel] at h
  exact h
theorem rw_or : rPkW T i 28530 = rMat T (jW 15) i := by
  have h := rWord_eq (T := T) (i := i) (jW 15) (by decide) (by decide) (by decide)
  rw [show Int64.ofNat (vN (fun r => cN ((jW 15).getD r 0)) (jW 15).length) = 28530 by decide +kernel] at h
  exact h
end WRC
