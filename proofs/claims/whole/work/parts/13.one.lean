/-! one instruction of the small machine is one of the big machine's -/
theorem q_bv (x : Int) : (Int32.ofInt x).toBitVec.toNat = (x % 4294967296).toNat := by
  show (BitVec.ofInt 32 x).toNat = _
  rw [BitVec.toNat_ofInt]
  rfl
theorem q_modI (x : Int) (k : Nat) (m : Nat) (hm : m = 2 ^ k) (hk : k ≤ 16) : nI ((Int32.ofInt x).toBitVec.toNat % 2 ^ k) = Int32.ofInt (x % (m : Int)) := by
  rw [q_bv, ← hm]
  have h1 : (4294967296 : Int) = (m : Int) * (2 ^ (32 - k) : Nat) := by
    rw [hm]
    have : (2 : Nat) ^ k * 2 ^ (32 - k) = 2 ^ 32 := by rw [← Nat.pow_add]; congr 1; omega
    have h2 : (((2 : Nat) ^ k * 2 ^ (32 - k) : Nat) : Int) = ((2 ^ 32 : Nat) : Int) := by rw [this]
    rw [Int.natCast_mul] at h2
    exact h2.symm
  have hmp : 0 < m := by rw [hm]; exact Nat.two_pow_pos k
  have h2 : (x % 4294967296) % (m : Int) = x % (m : Int) := by
    rw [h1]; exact Int.emod_emod_of_dvd x ⟨_, rfl⟩
  have h3 : 0 ≤ x % 4294967296 := Int.emod_nonneg x (by decide)
  have h4 : (((x % 4294967296).toNat % m : Nat) : Int) = x % (m : Int) := by
    rw [Int.natCast_emod, Int.toNat_of_nonneg h3, h2]
  show Int32.ofInt (((x % 4294967296).toNat % m : Nat) : Int) = _
  rw [h4]
theorem q_emr (x : Int) (m : Nat) (h : 0 < m) (h2 : m ≤ 65536) : q_r (x % (m : Int)) := by
  have h3 := Int.emod_nonneg x (show (m : Int) ≠ 0 by omega)
  have h4 := Int.emod_lt_of_pos x (show (0 : Int) < m by omega)
  exact ⟨by omega, by omega⟩
theorem q_i2l {x : Int} (h : q_r x) : (Int32.ofInt x).toInt64 = Int64.ofInt x := by
  apply Int64.toInt_inj.mp
  rw [Int32.toInt_toInt64, q_toI h, q_toL (q_r_6 h)]
theorem q_b8 {n : Int} (h : -128 ≤ n ∧ n < 128) : (Int8.ofInt n).toInt32 = Int32.ofInt n := by
  apply Int32.toInt_inj.mp
  rw [Int8.toInt_toInt32, q_toI ⟨by omega, by omega⟩, Int8.toInt_ofInt]
  show Int.bmod n 256 = n
  exact Int.bmod_eq_of_le (by omega) (by omega)
theorem q_s16 {n : Int} (h : -32768 ≤ n ∧ n < 32768) : (Int16.ofInt n).toInt32 = Int32.ofInt n := by
  apply Int32.toInt_inj.mp
  rw [Int16.toInt_toInt32, q_toI ⟨by omega, by omega⟩, Int16.toInt_ofInt]
  show Int.bmod n 65536 = n
  exact Int.bmod_eq_of_le (by omega) (by omega)
theorem q_l6 {x y : Int} (hx : q_r6 x) (hy : q_r6 y) : Int64.ofInt x < Int64.ofInt y ↔ x < y := by rw [Int64.lt_iff_toInt_lt, q_toL hx, q_toL hy]
theorem q_rem2 {x : Int} (hx : q_r x) (h : 0 ≤ x) : Int32.ofInt x - Int32.ofInt x / Int32.ofInt 2 * Int32.ofInt 2 = Int32.ofInt (x % 2) := by
  obtain ⟨n, rfl⟩ : ∃ n : Nat, x = (n : Int) := ⟨x.toNat, by omega⟩
  have := pk_rem (a := n) (d := 2) (by have := hx.2; omega) (by decide) (by decide)
  exact this
theorem q_i2b {x : Int} (h : -128 ≤ x ∧ x < 128) : (Int32.ofInt x).toInt8.toInt32 = Int32.ofInt x := by
  apply Int32.toInt_inj.mp
  rw [Int8.toInt_toInt32, Int32.toInt_toInt8, q_toI ⟨by omega, by omega⟩]
  exact Int.bmod_eq_of_le (by omega) (by omega)
