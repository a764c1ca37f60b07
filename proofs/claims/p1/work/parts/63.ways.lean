/-! ways -/
theorem bit_of : ∀ k, k < 1024 → k = 0 ∨ ∃ i, i < 10 ∧ (Int32.ofNat k >>> (Int32.ofNat i &&& 31)) &&& 1 = 1 := by
  intro k hk
  by_cases h : k = 0
  · exact Or.inl h
  · refine Or.inr ?_
    have key : ∀ k, k < 1024 → k ≠ 0 → (List.range 10).any (fun i => decide ((Int32.ofNat k >>> (Int32.ofNat i &&& 31)) &&& 1 = 1)) = true := by decide +kernel
    have q := key k hk h
    rw [List.any_eq_true] at q
    obtain ⟨i, hi, q⟩ := q
    exact ⟨i, List.mem_range.mp hi, of_decide_eq_true q⟩
theorem k10 : ∀ k, k < 10 → ¬ (10 : Int32) ≤ Int32.ofNat k ∧ Int32.ofNat k + 1 = Int32.ofNat (k + 1) := by decide
theorem turn26 {a : Int32} {i : Nat} (hi : i < 10) (hb : (a >>> (Int32.ofNat i &&& 31)) &&& 1 = 1) : ∀ (e k n : Nat), k + e = i → fX11_mayTurn_26 0 a (n + 1 + e) (Int32.ofNat k) (mB 1610) = some (0, mB 1610) := by
  intro e
  induction e with
  | zero =>
    intro k n hk
    have hk : k = i := by omega
    subst hk
    rw [fX11_mayTurn_26, if_neg (k10 k hi).1, xLet_e, hb, xLet_e, if_neg (by decide), noStepped, bind_e, if_neg (by decide)]
  | succ e ih =>
    intro k n hk
    obtain ⟨a1, a2⟩ := k10 k (by omega)
    rw [show n + 1 + (e + 1) = n + 1 + e + 1 from rfl, fX11_mayTurn_26, if_neg a1, xLet_e, xLet_e]
    by_cases q : (a >>> (Int32.ofNat k &&& 31)) &&& 1 = 1
    · rw [if_neg (fun f => f q), noStepped, bind_e, if_neg (by decide)]
    · rw [if_pos q, fX11_mayTurn_54, xLet_e, a2]
      exact ih (k + 1) n (by omega)
theorem small_of {a : Int32} (h : a >>> ((10 : Int32) &&& 31) = 0) : ∃ k, k < 1024 ∧ a = Int32.ofNat k := by
  have h2 : a.toBitVec.sshiftRight' (BitVec.ofNat 32 10) = 0 := congrArg Int32.toBitVec h
  have h3 : a.toBitVec.sshiftRight 10 = 0#32 := h2
  have h4 : (a.toBitVec.sshiftRight 10).toInt = 0 := by rw [h3]; rfl
  rw [BitVec.toInt_sshiftRight] at h4
  have h5 : a.toBitVec.toInt / ((2 ^ 10 : Nat) : Int) = 0 := by rw [← Int.shiftRight_eq_div_pow]; exact h4
  rw [show ((2 ^ 10 : Nat) : Int) = 1024 from rfl] at h5
  have h6 : 0 ≤ a.toBitVec.toInt ∧ a.toBitVec.toInt < 1024 := by omega
  have e : a.toInt = a.toBitVec.toInt := rfl
  refine ⟨a.toInt.toNat, by omega, ?_⟩
  apply Int32.toInt_inj.mp
  rw [Int32.toInt_ofNat_of_lt (by omega)]
  omega
theorem mayTurn0 (a : Int32) : fX11_mayTurn 0 a (mB 1610) = some (0, mB 1610) := by
  obtain ⟨c, hc⟩ : ∃ c, fJ6_bitCount_0f7a4 a (mB 1610) = some (c, mB 1610) := by
    rw [fJ6_bitCount_0f7a4, fJ6_bitCount_0f7a4_0]
    simp only [xLet_e]
    exact ⟨_, Eq.refl _⟩
  rw [fX11_mayTurn, fX11_mayTurn_0, hc, bind_e]
  by_cases h1 : c < 1
  · rw [if_pos h1, fX11_mayTurn_22]
  · rw [if_neg h1]
    by_cases h2 : 5 < c
    · rw [if_pos h2, fX11_mayTurn_22]
    · rw [if_neg h2, xLet_e]
      by_cases h3 : a >>> ((10 : Int32) &&& 31) = 0
      · rw [if_pos h3]
        obtain ⟨k, hk, e⟩ := small_of h3
        rcases bit_of k hk with z | ⟨i, hi, hb⟩
        · exfalso
          subst z
          have e0 : a = 0 := e
          subst e0
          apply h1
          have : c = 0 := by
            have q := hc
            rw [fJ6_bitCount_0f7a4, fJ6_bitCount_0f7a4_0] at q
            simp only [xLet_e] at q
            have q1 := congrArg (fun o => o.map Prod.fst) q
            simp only [Option.map_some, Option.some.injEq] at q1
            rw [← q1]
            decide
          rw [this]
          decide
        · rw [← e] at hb
          obtain ⟨n, hn⟩ := fuE i (by omega)
          rw [hn, ← of0]
          exact turn26 hi hb i 0 n (by omega)
      · rw [if_neg h3, fX11_mayTurn_22]
theorem areStairs0 (a : Int32) : fX12_areStairs 291 a (mB 1610) = some (0, mB 1610) := by
  obtain ⟨k0, hk0⟩ := fuE0
  have e22 : fX12_areStairs_22 291 a 0 (mB 1610) = some (0, mB 1610) := by
    rw [fX12_areStairs_22, fX12_areStairs_23, hk0, fX12_areStairs_27, if_neg (by decide), if_pos rfl, fX12_areStairs_64, if_pos rfl, fX12_areStairs_78, fX12_areStairs_79]
    rfl
  rw [fX12_areStairs, fX12_areStairs_0]
  by_cases h : a ≤ 0
  · rw [if_pos h, e22]
  · rw [if_neg h, in2, cond_e, cl2, rB_292_2, xLet_e, xLet_e, if_pos, e22]
    have q : (1 : Int32) <<< ((0 : Int32) &&& 31) = 1 := by decide
    rw [q]
    rw [Int32.le_iff_toInt_le, show (0 : Int32).toInt = 0 by decide] at h
    rw [Int32.le_iff_toInt_le, show (1 : Int32).toInt = 1 by decide]
    omega
theorem alike_ways {a b c : Int32} : Alike (fX11_ways 0 a b c) (fX12_ways 291 a b c) (mB 1610) := by
  refine ⟨-1, mB 1610, mB 1610, ?_, ?_⟩
  · rw [fX11_ways, fX11_ways_0]
    rcases within_or c 0 1 (mB 1610) with q | q
    · rw [q, bind_e, if_pos rfl, fX11_ways_25]
    · rw [q, bind_e, if_neg (by decide)]
      rcases mayRun_or b with q | q
      · rw [q, bind_e, if_pos rfl, fX11_ways_25]
      · rw [q, bind_e, if_neg (by decide), mayTurn0, bind_e, if_neg (by decide), fX11_ways_25]
  · rw [fX12_ways, fX12_ways_0, areStairs0, bind_e, if_pos rfl, fX12_ways_25]
