/-! ===== what X's reader keeps, and what a good reading is ===== -/
def kp (g : RS → RS) : Prop := ∀ s, s.2.2.1 ≠ 0 → (g s).2.2.1 = s.2.2.1
theorem rFail_kp {p : Nat} {k : Int32} : kp (fun s => rFail s p k) := fun s h => by
  show (rFail s p k).2.2.1 = _
  unfold rFail; rw [if_neg h]
theorem rFail_kp' {s : RS} {p : Nat} {k : Int32} (h : s.2.2.1 ≠ 0) : rFail s p k = s := if_neg h
theorem rTold_kp {s : RS} {p : Nat} (h : s.2.2.1 ≠ 0) : (rTold s p).2.2.1 = s.2.2.1 := by
  unfold rTold; split
  · rw [rFail_kp' (s := (s.1, s.2.1 + 1, s.2.2)) h]
  · rfl
theorem rOp_kp {s : RS} {dp : Nat} (h : s.2.2.1 ≠ 0) : rOp dp s = s := by
  unfold rOp; split
  · exact rFail_kp' h
  · rfl
theorem rExp_kp {T : Nat → Int32} {s : RS} {x : Int32} (h : s.2.2.1 ≠ 0) : (rExp T x s).2.2.1 = s.2.2.1 := by
  unfold rExp; split
  · rfl
  · rw [rFail_kp' (s := (rSk T s.1, s.2)) h]
theorem rNum_kp {T : Nat → Int32} {s : RS} {x : Int32} (h : s.2.2.1 ≠ 0) : (rNum T x s).2.2.1 = s.2.2.1 := by
  unfold rNum; split
  · rw [rFail_kp' (s := (s.1 + (rNm T s.1).1, s.2)) h]
  · split
    · rw [rFail_kp' (s := (s.1 + (rNm T s.1).1, s.2)) h]
    · rfl
theorem rWs_kp {T : Nat → Int32} {u : Int32} {s : RS} (h : s.2.2.1 ≠ 0) : rWs T u s = s := by
  unfold rWs; split
  · exact rFail_kp' h
  · rfl
theorem rSign_kp {T : Nat → Int32} {s : RS} (h : s.2.2.1 ≠ 0) : (rSign T s).2.2.1 = s.2.2.1 := by
  unfold rSign; split
  · exact rTold_kp (s := (rSk T s.1, s.2)) h
  · rw [rFail_kp' (s := (rSk T s.1, s.2)) h]
theorem rVal_kp {T : Nat → Int32} {u : Int32} {dp : Nat} {inner : RS → RS} : kp (rVal T u dp inner) := fun s h => by
  unfold rVal
  split
  · rw [rOp_kp (s := (rSk T s.1, s.2)) h, if_neg h]
  · split
    · rw [rTold_kp] <;> rw [rPut_f, rNum_kp (s := (rSk T s.1, s.2)) h]; exact h
    · rw [rWs_kp (s := (rSk T s.1, s.2)) h, rTold_kp]
      · exact rPut_f
      · show (rPut _ _).2.2.1 ≠ 0
        rw [rPut_f]; exact h
theorem rBinL_kp {T : Nat → Int32} {a x b y : Int32} {sub : RS → RS} {n : Nat} {s : RS} (h : s.2.2.1 ≠ 0) : rBinL T a x b y sub n s = s := by
  cases n with
  | zero => rfl
  | succ n => unfold rBinL; rw [if_neg h]
theorem rWordL_kp {T : Nat → Int32} {w : List Int32} {o : Int32} {sub : RS → RS} {n : Nat} {s : RS} (h : s.2.2.1 ≠ 0) : (rWordL T w o sub n s).2.2.1 = s.2.2.1 := by
  cases n with
  | zero => rfl
  | succ n =>
    unfold rWordL
    rw [if_neg (by unfold rTW; simp [h])]
theorem rTerm_kp {T : Nat → Int32} {u : Int32} {dp : Nat} {inner : RS → RS} : kp (rTerm T u dp inner) := fun s h => by
  have e := rVal_kp (T := T) (u := u) (dp := dp) (inner := inner) s h
  unfold rTerm
  rw [rBinL_kp (by rw [e]; exact h), e]
theorem rSumW_kp {T : Nat → Int32} {u : Int32} {dp : Nat} {inner : RS → RS} : kp (rSumW T u dp inner) := fun s h => by
  have e := rTerm_kp (T := T) (u := u) (dp := dp) (inner := inner) s h
  unfold rSumW
  rw [rBinL_kp (by rw [e]; exact h), e]
theorem rSum_kp {T : Nat → Int32} {u : Int32} : ∀ k, kp (rSum T u k)
  | 0 => rSumW_kp
  | _ + 1 => rSumW_kp
theorem rFact_kp {T : Nat → Int32} {u : Int32} : ∀ k, kp (rFact T u k) := by
  have key : ∀ dp k inF inT, kp (rFactW T dp (rSum T u k) inF inT) := fun dp k inF inT s h => by
    unfold rFactW
    have e1 := rSum_kp (T := T) (u := u) k (rSk T s.1, s.2) h
    have e2 : (rSign T (rSum T u k (rSk T s.1, s.2))).2.2.1 = s.2.2.1 := (rSign_kp (by rw [e1]; exact h)).trans e1
    split
    · rw [rOp_kp (s := (rSk T s.1, s.2)) h, if_neg h]
    · split
      · rw [rOp_kp (s := (rSk T s.1, s.2)) h, if_neg h]
      · rw [if_neg (by rw [e2]; exact h)]; exact e2
  intro k
  cases k with
  | zero => exact key _ _ _ _
  | succ k => exact key _ _ _ _
theorem rPart_kp {T : Nat → Int32} {fact : RS → RS} (hf : kp fact) : kp (rPart T fact) := fun s h => by
  unfold rPart
  rw [rWordL_kp (by rw [hf s h]; exact h), hf s h]
theorem rTest_kp {T : Nat → Int32} {fact : RS → RS} (hf : kp fact) : kp (rTest T fact) := fun s h => by
  unfold rTest
  rw [rWordL_kp (by rw [rPart_kp hf s h]; exact h), rPart_kp hf s h]
theorem rIf_kp {T : Nat → Int32} {u : Int32} {s : RS} (h : s.2.2.1 ≠ 0) : rIf T u s = (rSk T s.1, s.2) := by
  unfold rIf
  rw [if_neg (by unfold rTW; simp [h])]
theorem rClause_kp {T : Nat → Int32} {u : Int32} {n : Nat} {B : jmM} {s : RS} (h : s.2.2.1 ≠ 0) : (rClause T u n B s).2.2.2.1 = s.2.2.1 := by
  unfold rClause
  split
  · show (rFail _ _ _).2.2.1 = _
    rw [rFail_kp' (s := (rSk T s.1, s.2)) h]
  split
  · show (rFail _ _ _).2.2.1 = _
    rw [rFail_kp' (s := (rSk T s.1, s.2)) h]
  split
  · exact rNum_kp (s := (rSk T (rEnd T (rSk T s.1)), s.2)) h
  · have e := rSum_kp (T := T) (u := u) 10 (rEnd T (rSk T s.1), s.2) h
    show (rIf _ _ _).2.2.1 = _
    rw [rIf_kp (by rw [e]; exact h)]; exact e
theorem Tk_mono {b : Bool} {k k' : Nat} {c : List Int32} (h : Tk b k c) (hk : k ≤ k') : Tk b k' c := by
  obtain ⟨h1, h2, h3, h4⟩ := h
  refine ⟨by omega, h2, fun W W' hW => ?_, fun t r ht hr => h4 t r (by omega) hr⟩
  obtain ⟨v, v1, v2, v3⟩ := h3 W W' hW
  exact ⟨v, v1, fun q hq => v2 q (by omega), v3⟩
/-- from s0 (tt told) to s: c was written, q VALUES were told -/
def GA (b : Bool) (z : Nat) (s0 : RS) (tt : Nat) (s : RS) (c : List Int32) (q : Nat) : Prop := Tk b q c ∧ s.2.1 = nI (tt + q) ∧ tt + q ≤ 60 ∧ s.2.2.2.1 = s0.2.2.2.1 + c.length ∧ kSeg s.2.2.2.2 s0.2.2.2.1 c ∧ (∀ j, j < s0.2.2.2.1 → s.2.2.2.2 j = s0.2.2.2.2 j) ∧ c.length + s0.1 ≤ s.1 ∧ s.1 ≤ z
/-- a reading that is well said so far -/
def G0 (z : Nat) (s : RS) (tt : Nat) : Prop := s.2.2.1 = 0 ∧ s.2.1 = nI tt ∧ tt ≤ 60 ∧ s.1 ≤ z ∧ s.2.2.2.1 ≤ s.1
def GD (b : Bool) (z : Nat) (g : RS → RS) : Prop := ∀ s tt, G0 z s tt → (g s).2.2.1 = 0 → ∃ c q, GA b z s tt (g s) c q
theorem GA_0 {b : Bool} {z tt q : Nat} {s0 s : RS} {c : List Int32} (h : GA b z s0 tt s c q) (h0 : G0 z s0 tt) (hf : s.2.2.1 = 0) : G0 z s (tt + q) := by
  obtain ⟨h1, h2, h3, h4, h5, h6, h7, h8⟩ := h
  obtain ⟨g1, g2, g3, g4, g5⟩ := h0
  exact ⟨hf, h2, h3, h8, by omega⟩
theorem rPut_lt {s : RS} {x : Int32} (h : s.2.2.2.1 < 400) : rPut s x = (s.1, s.2.1, s.2.2.1, s.2.2.2.1 + 1, jup s.2.2.2.2 s.2.2.2.1 x) := if_pos h
theorem kSeg_jup {F : Nat → Int32} {k : Nat} {v : Int32} {c : List Int32} {i : Nat} (h : kSeg F i c) (hk : i + c.length ≤ k) : kSeg (jup F k v) i c := kSeg_congr c i (fun j h1 h2 => (jup_ne (by omega)).symm) h
/-- one more piece and an operator behind it -/
theorem GA_step {b b1 : Bool} {z tt q q2 e i1 : Nat} {s0 s r : RS} {c c2 : List Int32} {x : Int32} (h0 : G0 z s0 tt) (h : GA b1 z s0 tt s c q) (hi : s.1 < i1) (t1 : Int32) (h2 : GA b1 z (i1, t1, s.2.2) (tt + q + e) r c2 q2) (hz : z ≤ 400) (hT : Tk b1 q c → Tk b1 q2 c2 → Tk b (q + q2) (c ++ c2 ++ [x])) : GA b z s0 tt (rPut r x) (c ++ c2 ++ [x]) (q + e + q2) := by
  obtain ⟨a1, a2, a3, a4, a5, a6, a7, a8⟩ := h
  obtain ⟨d1, d2, d3, d4, d5, d6, d7, d8⟩ := h2
  obtain ⟨g1, g2, g3, g4, g5⟩ := h0
  have d4 : r.2.2.2.1 = s.2.2.2.1 + c2.length := d4
  have d5 : kSeg r.2.2.2.2 s.2.2.2.1 c2 := d5
  have d6 : ∀ j, j < s.2.2.2.1 → r.2.2.2.2 j = s.2.2.2.2 j := d6
  have d7 : c2.length + i1 ≤ r.1 := d7
  have hk : r.2.2.2.1 < 400 := by omega
  rw [rPut_lt hk]
  refine ⟨Tk_mono (hT a1 d1) (by omega), ?_, by omega, ?_, ?_, fun j hj => ?_, ?_, d8⟩
  · show r.2.1 = _
    rw [d2]; congr 1; omega
  · show r.2.2.2.1 + 1 = _
    simp only [List.length_append, List.length_singleton]; omega
  · show kSeg (jup r.2.2.2.2 r.2.2.2.1 x) _ _
    rw [kSeg_app, kSeg_app]
    refine ⟨⟨?_, ?_⟩, ?_⟩
    · exact kSeg_jup (kSeg_congr c _ (fun j h1 h2 => (d6 j (by omega)).symm) a5) (by omega)
    · rw [← a4]; exact kSeg_jup d5 (by omega)
    · simp only [List.length_append]
      refine ⟨?_, trivial⟩
      rw [show s0.2.2.2.1 + (c.length + c2.length) = r.2.2.2.1 by omega]; exact jup_same
  · show jup r.2.2.2.2 r.2.2.2.1 x j = _
    rw [jup_ne (by omega), d6 j (by omega), a6 j hj]
  · show (c ++ c2 ++ [x]).length + s0.1 ≤ r.1
    simp only [List.length_append, List.length_singleton]; omega
