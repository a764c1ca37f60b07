/-! STEPS OVER THE LAYOUT: what reads and writes the cells -/
section XGX
variable {h : xH} {cc : ByteArray} {d q pc : Nat} {ls ls2 : xL} {st r : List Value} {m m2 : xMem} {c s : Nat} {v : Option Value} {M9 : xM}
theorem xFs_int {m : xMem} {a k : Nat} {sl : List (Option Nat)} (h : sl[k]? = some none) : (xFs m a sl)[k]? = some (.int (m.1 a k)) := by
  unfold xFs; rw [List.getElem?_mapIdx, h]; rfl
theorem xFs_ref {m : xMem} {a k y : Nat} {sl : List (Option Nat)} (h : sl[k]? = some (some y)) : (xFs m a sl)[k]? = some (.ref y) := by
  unfold xFs; rw [List.getElem?_mapIdx, h]; rfl
theorem gx_get {i a ci kk w n : Nat} {sl : List (Option Nat)} {y : Int32} (hd : decode cc q = .ok (.getfield i, 3)) (hp : pc = q) (hf : xFld h.2.2.1 i = some (i, ci, kk, w)) (hT : xTmL[a]? = some (ci, n, sl)) (hc : decide (ci < 100) = true) (hs : sl[kk]? = some none) (hv : m.1 a kk = y) (k : xFx h cc d (q + 3) ls (.int y :: st) (xLay m) c s v M9) : xFx h cc d pc ls (.ref a :: st) (xLay m) c s v M9 := by
  subst hv
  exact fx_get hd hp hf (xLay_obj hT hc) (xFs_int hs) k
theorem gx_getr {i a ci kk w n y : Nat} {sl : List (Option Nat)} (hd : decode cc q = .ok (.getfield i, 3)) (hp : pc = q) (hf : xFld h.2.2.1 i = some (i, ci, kk, w)) (hT : xTmL[a]? = some (ci, n, sl)) (hc : decide (ci < 100) = true) (hs : sl[kk]? = some (some y)) (k : xFx h cc d (q + 3) ls (.ref y :: st) (xLay m) c s v M9) : xFx h cc d pc ls (.ref a :: st) (xLay m) c s v M9 :=
  fx_get hd hp hf (xLay_obj hT hc) (xFs_ref hs) k
theorem xFs_len {m : xMem} {a : Nat} {sl : List (Option Nat)} : (xFs m a sl).length = sl.length := by simp [xFs]
theorem gx_put {i a ci kk w n : Nat} {sl : List (Option Nat)} {x : Int32} (hd : decode cc q = .ok (.putfield i, 3)) (hp : pc = q) (hf : xFld h.2.2.1 i = some (i, ci, kk, w)) (hT : xTmL[a]? = some (ci, n, sl)) (hc : decide (ci < 100) = true) (hs : sl[kk]? = some none) (hg : (xFit (xTy ci kk) (.int x) && !((xCl ci).2.1 kk).2.2.2) = true) (hv : xPut m a kk x = m2) (k : xFx h cc d (q + 3) ls st (xLay m2) c s v M9) : xFx h cc d pc ls (.int x :: .ref a :: st) (xLay m) c s v M9 := by
  subst hv
  refine fx_put hd hp hf (xLay_obj hT hc) ?_ (xLay_put hT hc hs) k
  rw [xFs_len]
  have hk := (List.getElem?_eq_some_iff.mp hs).1
  simp only [Bool.and_eq_true] at hg
  rw [hg.1, hg.2, decide_eq_true hk]
  rfl
theorem xNsc {a : Nat} {t : Nat × Nat × List (Option Nat)} (h : xTmL[a]? = some t) : decide (a = xSc) = false := by
  have h1 : a < 317 := by rw [← xTmL_len]; exact (List.getElem?_eq_some_iff.mp h).1
  exact decide_eq_false (by unfold xSc; omega)
theorem gx_iaload {a n : Nat} {sl : List (Option Nat)} {j y : Int32} (hd : decode cc q = .ok (.iaload, 1)) (hp : pc = q) (hT : xTmL[a]? = some (101, n, sl)) (hj : xIn j n = true) (hv : m.1 a j.toNatClampNeg = y) (k : xFx h cc d (q + 1) ls (.int y :: st) (xLay m) c s v M9) : xFx h cc d pc ls (.int j :: .ref a :: st) (xLay m) c s v M9 :=
  fx_iaload hd hp (xLay_int (t := 1) hT rfl) (xNsc hT) hj hv k
theorem gx_baload {a t n : Nat} {sl : List (Option Nat)} {j y : Int32} (hd : decode cc q = .ok (.baload, 1)) (hp : pc = q) (hT : xTmL[a]? = some (t + 100, n, sl)) (ht : (decide (t = 0) || decide (t = 3)) = true) (hj : xIn j n = true) (hv : m.1 a j.toNatClampNeg = y) (k : xFx h cc d (q + 1) ls (.int y :: st) (xLay m) c s v M9) : xFx h cc d pc ls (.int j :: .ref a :: st) (xLay m) c s v M9 := by
  have ht2 : (decide (t < 4) && !decide (t = 2)) = true := by
    simp only [Bool.or_eq_true, decide_eq_true_eq] at ht
    rcases ht with rfl | rfl <;> rfl
  exact fx_baload hd hp (xLay_int hT ht2) ht hj hv k
theorem gx_laload {a n : Nat} {sl : List (Option Nat)} {j : Int32} {y : Int64} (hd : decode cc q = .ok (.laload, 1)) (hp : pc = q) (hT : xTmL[a]? = some (102, n, sl)) (hj : xIn j n = true) (hv : m.2 j.toNatClampNeg = y) (k : xFx h cc d (q + 1) ls (.long y :: st) (xLay m) c s v M9) : xFx h cc d pc ls (.int j :: .ref a :: st) (xLay m) c s v M9 :=
  fx_laload hd hp (xLay_long hT) hj hv k
theorem gx_aaload {a t n y : Nat} {sl : List (Option Nat)} {j : Int32} (hd : decode cc q = .ok (.aaload, 1)) (hp : pc = q) (hT : xTmL[a]? = some (t + 100, n, sl)) (ht : (decide (4 ≤ t) && decide (t < 8)) = true) (hj : xIn j n = true) (hv : (sl[j.toNatClampNeg]?).join = some y) (k : xFx h cc d (q + 1) ls (.ref y :: st) (xLay m) c s v M9) : xFx h cc d pc ls (.int j :: .ref a :: st) (xLay m) c s v M9 := by
  have h4 : decide (4 ≤ t) = true := by simp only [Bool.and_eq_true] at ht; exact ht.1
  exact fx_aaload hd hp (xLay_ref hT h4) ht hj hv k
theorem gx_alen {a t n : Nat} {sl : List (Option Nat)} {y : Int32} (hd : decode cc q = .ok (.arraylength, 1)) (hp : pc = q) (hT : xTmL[a]? = some (t + 100, n, sl)) (ht : decide (t < 8) = true) (hv : Int32.ofNat n = y) (k : xFx h cc d (q + 1) ls (.int y :: st) (xLay m) c s v M9) : xFx h cc d pc ls (.ref a :: st) (xLay m) c s v M9 := by
  have ht8 : t < 8 := of_decide_eq_true ht
  by_cases h4 : 4 ≤ t
  · exact fx_alen hd hp (xLay_ref hT (decide_eq_true h4)) (xNsc hT) ht hv k
  · by_cases h2 : t = 2
    · subst h2
      exact fx_alen hd hp (xLay_long hT) (xNsc hT) ht hv k
    · exact fx_alen hd hp (xLay_int hT (by simp [h2]; omega)) (xNsc hT) ht hv k
theorem gx_iastore {a n : Nat} {sl : List (Option Nat)} {j x : Int32} (hd : decode cc q = .ok (.iastore, 1)) (hp : pc = q) (hT : xTmL[a]? = some (101, n, sl)) (hj : xIn j n = true) (hv : xPut m a j.toNatClampNeg x = m2) (k : xFx h cc d (q + 1) ls st (xLay m2) c s v M9) : xFx h cc d pc ls (.int x :: .int j :: .ref a :: st) (xLay m) c s v M9 := by
  subst hv
  exact fx_iastore hd hp (xLay_int (t := 1) hT rfl) hj (xLay_upd (t := 1) hT rfl) k
theorem gx_bastore {a t n : Nat} {sl : List (Option Nat)} {j x y : Int32} (hd : decode cc q = .ok (.bastore, 1)) (hp : pc = q) (hT : xTmL[a]? = some (t + 100, n, sl)) (ht : (decide (t = 0) || decide (t = 3)) = true) (hj : xIn j n = true) (hy : vp_nar (xAty t) x = y) (hv : xPut m a j.toNatClampNeg y = m2) (k : xFx h cc d (q + 1) ls st (xLay m2) c s v M9) : xFx h cc d pc ls (.int x :: .int j :: .ref a :: st) (xLay m) c s v M9 := by
  subst hv
  subst hy
  have ht2 : (decide (t < 4) && !decide (t = 2)) = true := by
    simp only [Bool.or_eq_true, decide_eq_true_eq] at ht
    rcases ht with rfl | rfl <;> rfl
  exact fx_bastore hd hp (xLay_int hT ht2) ht hj (xLay_upd hT ht2) k
theorem gx_lastore {j : Int32} {x : Int64} (hd : decode cc q = .ok (.lastore, 1)) (hp : pc = q) (hj : xIn j 200 = true) (hv : xPutL m j.toNatClampNeg x = m2) (k : xFx h cc d (q + 1) ls st (xLay m2) c s v M9) : xFx h cc d pc ls (.long x :: .int j :: .ref 310 :: st) (xLay m) c s v M9 := by
  subst hv
  exact fx_lastore hd hp (xLay_long (sl := []) (by decide +kernel)) hj xLay_putL k
theorem gx_copy {i w a a0 n0 n1 : Nat} {sl sl0 : List (Option Nat)} {n dp sp : Int32} (hd : decode cc q = .ok (.invokestatic i, 3)) (hp : pc = q) (hc : xCall h.2.2.1 i = some (i, 1004, w)) (hr : xRoom st = true) (hT0 : xTmL[a0]? = some (101, n0, sl0)) (hT1 : xTmL[a]? = some (101, n1, sl)) (hg : (!decide (sp < 0) && (!decide (dp < 0) && (!decide (n < 0) && (decide (sp.toNatClampNeg + n.toNatClampNeg ≤ n0) && decide (dp.toNatClampNeg + n.toNatClampNeg ≤ n1))))) = true) (hv : xCpy m a0 a sp.toNatClampNeg dp.toNatClampNeg n.toNatClampNeg = m2) (k : xFx h cc d (q + 3) ls st (xLay m2) c s v M9) : xFx h cc d pc ls (.int n :: .int dp :: .ref a :: .int sp :: .ref a0 :: st) (xLay m) c s v M9 := by
  subst hv
  exact fx_copy hd hp hc hr (xLay_int (t := 1) hT0 rfl) (xLay_int (t := 1) hT1 rfl) hg (xLay_cpy hT1) k
/-- a call over the layout -/
theorem gx_callv {i z w a ci nn : Nat} {met : xMrow} {sl : List (Option Nat)} {as : List Value} {v1 : Option Value} (hp : pc = q) (hd : decode cc q = .ok (.invokevirtual i, 3)) (hc : xCall h.2.2.1 i = some (i, z, w)) (hz : decide (z < 1000) = true) (hm : xMet z = some met) (hg : (decide (met.2.2.2.2.2.2.1 = 1) && (decide (c + (xMc z).1 ≤ h.2.2.2.2.1) && decide (s + (xMc z).2 ≤ h.2.2.2.2.2))) = true) (hn : met.2.2.2.2.2.1 = as.length) (hst : st = as.reverse ++ .ref a :: r) (hr : xRoom r = true) (hT : xTmL[a]? = some (ci, nn, sl)) (hci : (decide (ci = met.2.2.2.2.1) && decide (ci < 13)) = true) (hE : xEx d z (.ref a :: as) (xLay m) v1 (xLay m2)) (h1 : c + (xMc z).1 = c) (h2 : s + (xMc z).2 = s) (k : xFx h cc d (q + 3) ls (v1.toList ++ r) (xLay m2) c s v M9) : xFx h cc d pc ls st (xLay m) c s v M9 := by
  have hc13 : decide (ci < 100) = true := by
    simp only [Bool.and_eq_true, decide_eq_true_eq] at hci
    exact decide_eq_true (by omega)
  exact fx_callv (virt := 1) (n := 0) hp (Or.inl ⟨rfl, hd, hc⟩) (of_decide_eq_true hz) hm hg hn hst hr (xLay_obj hT hc13) hci hE h1 h2 k
theorem gx_calls {i z w : Nat} {met : xMrow} {as : List Value} {v1 : Option Value} (hp : pc = q) (hd : decode cc q = .ok (.invokestatic i, 3)) (hc : xCall h.2.2.1 i = some (i, z, w)) (hz : decide (z < 1000) = true) (hm : xMet z = some met) (hg : (decide (met.2.2.2.2.2.2.1 = 0) && (decide (c + (xMc z).1 ≤ h.2.2.2.2.1) && decide (s + (xMc z).2 ≤ h.2.2.2.2.2))) = true) (hn : met.2.2.2.2.2.1 = as.length) (hst : st = as.reverse ++ r) (hr : xRoom r = true) (hE : xEx d z as (xLay m) v1 (xLay m2)) (h1 : c + (xMc z).1 = c) (h2 : s + (xMc z).2 = s) (k : xFx h cc d (q + 3) ls (v1.toList ++ r) (xLay m2) c s v M9) : xFx h cc d pc ls st (xLay m) c s v M9 :=
  fx_calls (n := 0) hp hd hc (of_decide_eq_true hz) hm hg hn hst hr hE h1 h2 k
theorem xLay_str (m : xMem) : (xLay m)[xSc + 1]? = none := by
  refine List.getElem?_eq_none ?_
  rw [xLay_len, xTmL_len]
  exact Nat.le_of_ble_eq_true rfl
theorem gx_tlen {i w : Nat} (hp : pc = q) (hd : decode cc q = .ok (.invokevirtual i, 3)) (hc : xCall h.2.2.1 i = some (i, 57, w)) (hcs : (decide (c ≤ h.2.2.2.2.1) && decide (s ≤ h.2.2.2.2.2)) = true) (hd5 : 5 ≤ d) (hr : xRoom st = true) (k : xFx h cc d (q + 3) ls (.int 73 :: st) (xLay m) c s v M9) : xFx h cc d pc ls (.ref (xSc + 1) :: st) (xLay m) c s v M9 :=
  fx_strv (as := []) (r := st) (met := y57) hp hd hc rfl (by show (true && (decide (c + 0 ≤ _) && decide (s + 0 ≤ _))) = true; rw [Nat.add_zero, Nat.add_zero, hcs]; rfl) rfl rfl hr (xLay_str m) rfl (xEx_len hd5) rfl rfl k
theorem gx_tchr {i w : Nat} {j : Int32} {x : Int32} (hp : pc = q) (hd : decode cc q = .ok (.invokevirtual i, 3)) (hc : xCall h.2.2.1 i = some (i, 59, w)) (hcs : (decide (c ≤ h.2.2.2.2.1) && decide (s ≤ h.2.2.2.2.2)) = true) (hd5 : 5 ≤ d) (hj : xIn j 73 = true) (hv : xChr j = x) (hr : xRoom st = true) (k : xFx h cc d (q + 3) ls (.int x :: st) (xLay m) c s v M9) : xFx h cc d pc ls (.int j :: .ref (xSc + 1) :: st) (xLay m) c s v M9 := by
  subst hv
  exact fx_strv (as := [.int j]) (r := st) (met := y59) hp hd hc rfl (by show (true && (decide (c + 0 ≤ _) && decide (s + 0 ≤ _))) = true; rw [Nat.add_zero, Nat.add_zero, hcs]; rfl) rfl rfl hr (xLay_str m) rfl (xEx_chr hd5 hj) rfl rfl k
/-- a named value -/
def xLet {α β : Type} (a : α) (f : α → β) : β := f a
theorem xLet_el {α β : Type} {a : α} {f : α → Option β} {r : β} (h : xLet a f = some r) : ∃ z, a = z ∧ f z = some r := ⟨a, rfl, h⟩
theorem xBind_el {α β : Type} {a : Option α} {f : α → Option β} {r : β} (h : a.bind f = some r) : ∃ z, a = some z ∧ f z = some r := by
  cases a with
  | none => cases h
  | some z => exact ⟨z, rfl, h⟩
theorem xChk_el {b : Bool} {β : Type} {a : Option β} {r : β} (h : (bif b then a else none) = some r) : b = true ∧ a = some r := by
  cases b with
  | true => exact ⟨rfl, h⟩
  | false => cases h
theorem xRef_at {sl : List (Option Nat)} {j : Int32} {n y0 w : Nat} (hsl : ∀ i, i < n → sl[i]? = some (some (y0 + w * i))) (hj : xIn j n = true) : (sl[j.toNatClampNeg]?).join = some (y0 + w * j.toNatClampNeg) := by
  unfold xIn at hj
  simp only [Bool.and_eq_true, decide_eq_true_eq] at hj
  rw [hsl _ hj.2]
  rfl
end XGX
