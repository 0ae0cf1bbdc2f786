/-! PURE: Java's ints by their numbers -/
theorem tadd {x y : Int32} (h1 : -2147483648 ≤ x.toInt + y.toInt) (h2 : x.toInt + y.toInt ≤ 2147483647) : (x + y).toInt = x.toInt + y.toInt := by
  rw [Int32.toInt_add]
  exact Int.bmod_eq_of_le (by omega) (by omega)
theorem tsub {x y : Int32} (h1 : -2147483648 ≤ x.toInt - y.toInt) (h2 : x.toInt - y.toInt ≤ 2147483647) : (x - y).toInt = x.toInt - y.toInt := by
  rw [Int32.toInt_sub]
  exact Int.bmod_eq_of_le (by omega) (by omega)
theorem tmul {x y : Int32} (h1 : -2147483648 ≤ x.toInt * y.toInt) (h2 : x.toInt * y.toInt ≤ 2147483647) : (x * y).toInt = x.toInt * y.toInt := by
  rw [Int32.toInt_mul]
  exact Int.bmod_eq_of_le (by omega) (by omega)
theorem nI_to {x : Int32} {k : Nat} (hk : k < 2 ^ 31) (h : x.toInt = (k : Int)) : x = nI k := Int32.toInt_inj.mp (by rw [nI_toInt hk, h])
/-- a power of two by its place: pw n is n - 1089 -/
def pw (n : Nat) : Int32 := nI n - 1089
theorem pw_toInt {n : Nat} (h : n < 1000000) : (pw n).toInt = (n : Int) - 1089 := pk_sub_toInt (b := 1089) (by omega) (by omega)
theorem pw_inj {x : Int32} {n : Nat} (h : n < 1000000) (hx : x.toInt = (n : Int) - 1089) : x = pw n := Int32.toInt_inj.mp (by rw [pw_toInt h, hx])
theorem pw_m1 {n : Nat} (h : n < 100000) : pw (n + 1) - 1 = pw n := pw_inj (by omega) (by
  have e := pw_toInt (n := n + 1) (by omega)
  have o : (1 : Int32).toInt = 1 := rfl
  rw [tsub (by omega) (by omega), e, o]
  omega)
theorem pw_dec {n : Nat} (h : n < 100000) : pw (n + 1) + Int32.ofInt (-1) = pw n := pw_inj (by omega) (by
  have e := pw_toInt (n := n + 1) (by omega)
  have o : (Int32.ofInt (-1)).toInt = -1 := rfl
  rw [tadd (by omega) (by omega), e, o]
  omega)
/-- an int as an unsigned number -/
def un (x : Int32) : Nat := x.toBitVec.toNat
theorem un_lt (x : Int32) : un x < 4294967296 := x.toBitVec.isLt
theorem un_nI (n : Nat) : un (nI n) = n % 4294967296 := by
  show (BitVec.ofNat 32 n).toNat = _
  rw [BitVec.toNat_ofNat]
theorem nI_un (x : Int32) : nI (un x) = x := Int32.toBitVec_inj.mp (by show BitVec.ofNat 32 x.toBitVec.toNat = x.toBitVec; simp)
theorem un_0 {x : Int32} : un x = 0 ↔ x = 0 := by
  constructor
  · intro h
    rw [← nI_un x, h]
    rfl
  · intro h
    rw [h]
    rfl
theorem su32 : ∀ n, n < 32 → (((nI n).toUInt32 &&& Int32.toUInt32 31).toBitVec % 32).toNat = n := by decide +kernel
theorem sl32 : ∀ n, n < 32 → ((nI n &&& 31).toBitVec.smod 32).toNat = n := by decide +kernel
theorem bit_at (x : Int32) {k : Nat} (hk : k < 32) : ((x.toUInt32 >>> ((nI k).toUInt32 &&& Int32.toUInt32 31)).toInt32 &&& 1) = nI (un x / 2 ^ k % 2) := by
  rw [pk_and _ (m := 1) 1 rfl, pk_ushr x (nI k) k (su32 k hk)]
  rfl
theorem i_m1 (x : Int32) : x + Int32.ofInt (-1) = x - 1 := by
  rw [Int32.sub_eq_add_neg]
  rfl
