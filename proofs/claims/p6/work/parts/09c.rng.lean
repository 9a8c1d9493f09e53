/-! ranges of arrays, rows of grids -/
def uRg (f : Nat → Int32) (lo hi : Int32) : Prop := ∀ k, lo ≤ f k ∧ f k ≤ hi
theorem uRup {f : Nat → Int32} {k : Nat} {v lo hi : Int32} (h : uRg f lo hi) (h1 : lo ≤ v) (h2 : v ≤ hi) : uRg (upd f k v) lo hi := by
  intro j
  by_cases e : j = k
  · subst e; rw [pk_us]; exact ⟨h1, h2⟩
  · rw [pk_un e]; exact h j
theorem uRnat {f : Nat → Int32} {lo hi : Int32} (h : uRg f lo hi) (k : Nat) (h0 : 0 ≤ lo.toInt) : ∃ a : Nat, (lo.toInt ≤ (a : Int) ∧ (a : Int) ≤ hi.toInt) ∧ f k = nI a := by
  obtain ⟨h1, h2⟩ := h k
  rw [Int32.le_iff_toInt_le] at h1 h2
  obtain ⟨a, ha, ea⟩ := nI_of (x := f k) (by rw [Int32.lt_iff_toInt_lt]; simp only [Int32.reduceToInt]; omega)
  refine ⟨a, ?_, ea⟩
  rw [ea, nI_toInt (by omega)] at h1 h2
  exact ⟨h1, h2⟩
theorem uLoN {lo : Int32} {e : Nat} (h : lo.toInt ≤ (e : Int)) (he : e < 2 ^ 31) : lo ≤ nI e := by rw [Int32.le_iff_toInt_le, nI_toInt he]; exact h
theorem uHiN {hi : Int32} {e : Nat} (h : (e : Int) ≤ hi.toInt) (he : e < 2 ^ 31) : nI e ≤ hi := by rw [Int32.le_iff_toInt_le, nI_toInt he]; exact h
theorem uRg0 {lo hi : Int32} (h1 : lo ≤ 0) (h2 : 0 ≤ hi) : uRg (fun _ => 0) lo hi := fun _ => ⟨h1, h2⟩
theorem uNatS {x : Int32} {n : Nat} (hn : n < 2 ^ 31) (h0 : ¬ x < 0) (h1 : ¬ nI n ≤ x) : ∃ a : Nat, a < n ∧ x = nI a := by
  rw [Int32.lt_iff_toInt_lt] at h0
  rw [Int32.le_iff_toInt_le, nI_toInt hn] at h1
  exact uNat (by simp only [Int32.reduceToInt] at h0; omega) (by omega) hn
theorem uMaxN {a b : Nat} (ha : a < 2 ^ 31) (hb : b < 2 ^ 31) : ∃ e : Nat, ((e = a ∨ e = b) ∧ a ≤ e ∧ b ≤ e) ∧ (if nI a < nI b then nI b else nI a) = nI e := by
  by_cases h : a < b
  · exact ⟨b, ⟨Or.inr rfl, by omega, by omega⟩, if_pos ((nI_ltI ha hb).mpr h)⟩
  · exact ⟨a, ⟨Or.inl rfl, by omega, by omega⟩, if_neg (fun q => h ((nI_ltI ha hb).mp q))⟩
theorem uMinN {a b : Nat} (ha : a < 2 ^ 31) (hb : b < 2 ^ 31) : ∃ e : Nat, ((e = a ∨ e = b) ∧ e ≤ a ∧ e ≤ b) ∧ (if nI b < nI a then nI b else nI a) = nI e := by
  by_cases h : b < a
  · exact ⟨b, ⟨Or.inr rfl, by omega, by omega⟩, if_pos ((nI_ltI hb ha).mpr h)⟩
  · exact ⟨a, ⟨Or.inl rfl, by omega, by omega⟩, if_neg (fun q => h ((nI_ltI hb ha).mp q))⟩
set_option maxRecDepth 100000 in
theorem uAbs0 : ∀ a : Nat, a < 16 → ∀ b : Nat, b < 16 → (if 0 ≤ nI b - nI a then nI b - nI a else 0 - (nI b - nI a)) = nI (if a ≤ b then b - a else a - b) := by decide +kernel
theorem uAbsD {a b : Nat} (ha : a < 16) (hb : b < 16) : ∃ d : Nat, d ≤ 15 ∧ (if 0 ≤ nI b - nI a then nI b - nI a else 0 - (nI b - nI a)) = nI d := ⟨if a ≤ b then b - a else a - b, by split <;> omega, uAbs0 a ha b hb⟩
theorem uBetw {a b k n : Nat} (ha : a < 16) (hb : b < 16) (hk : k ≤ n) (hn : 1 ≤ n) : (2 * (a * (n - k) + b * k) + n) / (2 * n) ≤ 15 := by
  have h1 : a * (n - k) ≤ 15 * (n - k) := Nat.mul_le_mul_right _ (by omega)
  have h2 : b * k ≤ 15 * k := Nat.mul_le_mul_right _ (by omega)
  have h3 : (2 * (a * (n - k) + b * k) + n) / (2 * n) < 16 := Nat.div_lt_of_lt_mul (by omega)
  omega
theorem uMul15 {a b : Nat} (ha : a ≤ 15) (hb : b ≤ 15) : a * b ≤ 225 := Nat.mul_le_mul ha hb
theorem uAnd255 (x : Int32) : 0 ≤ x &&& 255 ∧ x &&& 255 ≤ 255 := by
  rw [pk_and x (m := 255) 8 rfl]
  have h : x.toBitVec.toNat % 2 ^ 8 < 256 := Nat.mod_lt _ (by decide)
  exact ⟨uLoN (by simp only [Int32.reduceToInt]; omega) (by omega), uHiN (by simp only [Int32.reduceToInt]; omega) (by omega)⟩
section URN
variable {p : Program} {l : Launch} {e : Env} {R : Room} {s : State} {m : MethodId} {args : Array Value} {below : List Frame} {meth : Method} {c : Code} {H : Heap} {locs : List Loc} {cells slots : Nat} {Q : State → Prop}
variable {cc : ByteArray} {pc : Nat} {ls : Array Slot} {rest : List Value} {A : Nat → Prop} {a : Nat} {D : va_G} {K : Nat → ClassId} {own nm : String} {nL : Nat} {ret : Option FieldType} {ws : va_W}
theorem uAald {n : Nat} {f : Nat → Option Nat} {i : Int32} {j y : Nat} (B : uB p s m args meth c D K own nm cc nL ret A) (hP : va_P D vwCl ws H) (q0 : Nat) (ha : ws[q0]? = some (a, .inl (K 3, n, .inr (.inr (.inr (.inr f)))))) (hin : ¬ (i < 0 ∨ n ≤ i.toNatClampNeg)) (hj : i.toNatClampNeg = j) (hv : f j = some y) (hdg : decode cc pc = .ok (.aaload, 1)) (kk : W p l e R s m args below meth c H locs cells slots Q (F0 m (pc + 1) ls (.ref y :: rest))) : W p l e R s m args below meth c H locs cells slots Q (F0 m pc ls (.int i :: .ref a :: rest)) := by
  obtain ⟨hx, hb, hr, hml, hown, hts, hlocks, hnm, hK, hA, hN, hZ⟩ := B
  subst hj
  have hlt : i.toNatClampNeg < n := Nat.not_le.mp fun q => hin (Or.inr q)
  refine W.aald (v := va_rf (f i.toNatClampNeg)) (ty := .array .int) hx hb (hP q0 _ ha) ((hK.2 3 (K 3, .array .int) rfl).1 n (fun j => va_rf (f j))) rfl (fun q => by cases q) (by show ¬ (i < 0 ∨ (arrV _ _ _).slots.size ≤ _); rw [arrV_size]; exact hin) (by show (arrV _ _ _).slots[_]? = _; rw [arrV_read _ _ hlt]) rfl rfl hdg ?_
  rw [hv]
  exact kk
end URN
