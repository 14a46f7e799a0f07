/-! floats that are 0 or more, and no NaN: sums of such are such -/
theorem fp_enc (f : FP.Core.Fmt) {D : FP.Core.Datum} {M : Nat} (hp : 1 ≤ f.p) (hM : M = (f.exps - 1) * f.tails) (hq : (f.qmax - f.qmin).toNat + 2 ≤ f.exps - 1) (hD : (∃ c q, D = .fin false c q ∧ c < 2 ^ f.p ∧ f.qmin ≤ q ∧ q ≤ f.qmax) ∨ D = .inf false) : FP.Core.encode f D ≤ M := by
  subst hM
  have h2 : 2 ^ f.p = 2 * f.tails := by
    unfold FP.Core.Fmt.tails
    rw [show f.p = f.p - 1 + 1 by omega, Nat.pow_succ, Nat.mul_comm]
    rfl
  rcases hD with ⟨c, q, rfl, h1, h3, h4⟩ | rfl
  · unfold FP.Core.encode
    dsimp only
    split
    · unfold FP.Core.assemble
      have : 1 * f.tails ≤ (f.exps - 1) * f.tails := Nat.mul_le_mul_right _ (by omega)
      simp only [Bool.toNat_false]
      omega
    · unfold FP.Core.assemble
      have : ((q - f.qmin).toNat + 1 + 1) * f.tails ≤ (f.exps - 1) * f.tails := Nat.mul_le_mul_right _ (by omega)
      rw [Nat.add_mul, Nat.one_mul] at this
      simp only [Bool.toNat_false, Nat.zero_mul, Nat.zero_add]
      omega
  · unfold FP.Core.encode FP.Core.assemble
    dsimp only
    simp only [Bool.toNat_false, Nat.zero_mul, Nat.zero_add, Nat.add_zero]
    exact Nat.le_refl _
def fpG (D : FP.Core.Datum) : Prop := (∃ c q, D = .fin false c q) ∨ D = .inf false
def fpF (f : FP.Core.Fmt) (D : FP.Core.Datum) : Prop := (∃ c q, D = .fin false c q ∧ c < 2 ^ f.p ∧ f.qmin ≤ q ∧ q ≤ f.qmax) ∨ D = .inf false
theorem fp_ratio (f : FP.Core.Fmt) {c d : Nat} {q : Int} (hp : 1 ≤ f.p) (hqq : f.qmin ≤ f.qmax) : fpF f (FP.Core.roundRatio f false c d q) := by
  have hb : ∀ c q, c < 2 ^ f.p → f.qmin ≤ q → fpF f (FP.Core.bound f false c q) := by
    intro c q h1 h2
    unfold FP.Core.bound
    split
    · exact .inl ⟨c, q, rfl, h1, h2, by assumption⟩
    · exact .inr rfl
  have ht : f.tails < 2 ^ f.p := by
    unfold FP.Core.Fmt.tails
    exact Nat.pow_lt_pow_right (by decide) (by omega)
  unfold FP.Core.roundRatio
  split
  · exact .inl ⟨0, f.qmin, rfl, Nat.two_pow_pos _, Int.le_refl _, hqq⟩
  · unfold FP.Core.roundAt FP.Core.settle
    have hm : f.qmin ≤ FP.Core.quantum f c d q := by unfold FP.Core.quantum; omega
    split
    · exact hb _ _ (by assumption) hm
    · exact hb _ _ ht (by omega)
theorem fp_round (f : FP.Core.Fmt) {D : FP.Core.Datum} (hp : 1 ≤ f.p) (hqq : f.qmin ≤ f.qmax) (h : fpG D) : fpF f (FP.Core.round f D) := by
  rcases h with ⟨c, q, rfl⟩ | rfl
  · exact fp_ratio f hp hqq
  · exact .inr rfl
theorem fp_sum {D E : FP.Core.Datum} (h : fpG D) (h2 : fpG E) : fpG (FP.Core.exactSum D E) := by
  rcases h with ⟨c, q, rfl⟩ | rfl
  · rcases h2 with ⟨d, r, rfl⟩ | rfl
    · refine .inl ⟨(FP.Core.sumUnits false c q false d r (min q r)).natAbs, min q r, ?_⟩
      have : FP.Core.sumSign false false (FP.Core.sumUnits false c q false d r (min q r)) = false := by
        unfold FP.Core.sumSign
        split
        · rfl
        · unfold FP.Core.sumUnits FP.Core.signed
          simp only [Bool.false_eq_true, if_false, decide_eq_false_iff_not]
          omega
      show FP.Core.Datum.fin (FP.Core.sumSign false false _) _ _ = _
      rw [this]
    · exact .inr rfl
  · rcases h2 with ⟨d, r, rfl⟩ | rfl
    · exact .inr rfl
    · exact .inr rfl
theorem fp_dec32 {n : Nat} (h : n ≤ 2139095040) : fpG (FP.Core.decode FP.Core.b32 n) := by
  have e1 : FP.Core.b32.tails = 8388608 := rfl
  have e2 : FP.Core.b32.exps = 256 := rfl
  have hs : FP.Core.fieldS FP.Core.b32 n = false := by
    unfold FP.Core.fieldS
    rw [e1, e2, show n / 8388608 / 256 = 0 by omega]
    rfl
  unfold FP.Core.decode
  split
  · rename_i c
    rw [if_pos (by unfold FP.Core.fieldE FP.Core.fieldT at *; rw [e1, e2] at *; omega), hs]
    exact .inr rfl
  · split
    · rw [hs]; exact .inl ⟨_, _, rfl⟩
    · rw [hs]; exact .inl ⟨_, _, rfl⟩
theorem fp_nat32 {n : Nat} (h : n ≤ 2139095040) : (UInt32.ofNat n).toNat = n := by
  rw [UInt32.toNat_ofNat']
  exact Nat.mod_eq_of_lt (by omega)
theorem fp_enc32 {D : FP.Core.Datum} (h : fpF FP.Core.b32 D) : UInt32.ofNat (FP.Core.encode FP.Core.b32 D) ≤ 2139095040 := by
  have h1 := fp_enc FP.Core.b32 (D := D) (M := 2139095040) (by decide) (by decide) (by decide) h
  rw [UInt32.le_iff_toNat_le, fp_nat32 h1]
  exact h1
theorem fp_add {x y : UInt32} (hx : x ≤ 2139095040) (hy : y ≤ 2139095040) : FP.fadd x y ≤ 2139095040 := by
  refine fp_enc32 (fp_round FP.Core.b32 (by decide) (by decide) (fp_sum (fp_dec32 ?_) (fp_dec32 ?_)))
  · exact UInt32.le_iff_toNat_le.mp hx
  · exact UInt32.le_iff_toNat_le.mp hy
theorem fp_div {x : UInt32} (hx : x ≤ 2139095040) : FP.fdiv x 1092616192 ≤ 2139095040 := by
  refine fp_enc32 ?_
  have e : FP.Core.decode FP.Core.b32 (1092616192 : UInt32).toNat = .fin false 10485760 (-20) := by decide
  rw [e]
  rcases fp_dec32 (UInt32.le_iff_toNat_le.mp hx) with ⟨c, q, h⟩ | h
  · rw [h]
    exact fp_ratio FP.Core.b32 (by decide) (by decide)
  · rw [h]
    exact .inr rfl
theorem fp_zn {x : UInt32} (hx : x ≤ 2139095040) : zn32 x = true := by
  unfold zn32
  refine decide_eq_true ?_
  have h := UInt32.le_iff_toNat_le.mp hx
  rw [UInt32.le_iff_toNat_le, UInt32.toNat_and]
  refine Nat.le_trans Nat.and_le_left h
theorem fp_f2d {x : UInt32} (hx : x ≤ 2139095040) : zn64 (FP.f2d x) = true ∧ FP.dcmp (FP.f2d x) (FP.f2d x) = some .eq := by
  have hg := fp_dec32 (UInt32.le_iff_toNat_le.mp hx)
  have hn : FP.Core.fIsNaN x = false := by
    unfold FP.Core.fIsNaN FP.Core.isNaN
    refine decide_eq_false ?_
    rcases hg with ⟨c, q, e⟩ | e
    · rw [e]; intro z; cases z
    · rw [e]; intro z; cases z
  have e0 : FP.f2d x = UInt64.ofNat (FP.Core.encode FP.Core.b64 (FP.Core.round FP.Core.b64 (FP.Core.decode FP.Core.b32 x.toNat))) := by
    unfold FP.f2d
    rw [show FP.Core.fIsNaN x = false from hn]
    rfl
  have h1 := fp_enc FP.Core.b64 (M := 9218868437227405312) (by decide) (by decide) (by decide) (fp_round FP.Core.b64 (by decide) (by decide) hg)
  have h2 : (FP.f2d x).toNat ≤ 9218868437227405312 := by
    rw [e0, UInt64.toNat_ofNat', Nat.mod_eq_of_lt (by omega)]
    exact h1
  refine ⟨?_, ?_⟩
  · unfold zn64
    refine decide_eq_true ?_
    rw [UInt64.le_iff_toNat_le, UInt64.toNat_and]
    exact Nat.le_trans Nat.and_le_left h2
  · have hd : fpG (FP.Core.decode FP.Core.b64 (FP.f2d x).toNat) := by
      have e1 : FP.Core.b64.tails = 4503599627370496 := rfl
      have e2 : FP.Core.b64.exps = 2048 := rfl
      have hs : FP.Core.fieldS FP.Core.b64 (FP.f2d x).toNat = false := by
        unfold FP.Core.fieldS
        rw [e1, e2, show (FP.f2d x).toNat / 4503599627370496 / 2048 = 0 by omega]
        rfl
      unfold FP.Core.decode
      split
      · rw [if_pos (by unfold FP.Core.fieldE FP.Core.fieldT at *; rw [e1, e2] at *; omega), hs]
        exact .inr rfl
      · split
        · rw [hs]; exact .inl ⟨_, _, rfl⟩
        · rw [hs]; exact .inl ⟨_, _, rfl⟩
    show FP.Core.order (FP.Core.decode FP.Core.b64 (FP.f2d x).toNat) (FP.Core.decode FP.Core.b64 (FP.f2d x).toNat) = some .eq
    rcases hd with ⟨c, q, e⟩ | e
    · rw [e]
      unfold FP.Core.order
      simp
    · rw [e]
      rfl
