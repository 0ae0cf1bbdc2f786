/-! THE START: what the Statement gives of the machine as the law is entered -/
abbrev st_fl : List Cond := flatC (Jvm.Cond.and given_1 narrow_1)
def st_tm (i : Nat) : Term := ([.string "DecimalReader" 97, .string "DecimalReader" 103, .string "DecimalReader" 152, .string "DecimalReader" 154, .string "DecimalReader" 156, .string "DecimalReader" 158] : List Term).getD i (.arg 0)
theorem st_ex : ∀ i, i < 6 → Cond.exactly (st_tm i) "java/lang/String" ∈ st_fl := by decide +kernel
theorem st_co : ∀ i, i < 6 → Cond.eq (.field (st_tm i) "java/lang/String" "coder" "B") (.int 0) ∈ st_fl := by decide +kernel
theorem st_ar : ∀ i, i < 6 → Cond.arrayOf (.field (st_tm i) "java/lang/String" "value" "[B") .byte ∈ st_fl := by decide +kernel
theorem st_le : ∀ i, i < 6 → Cond.eq (.length (.field (st_tm i) "java/lang/String" "value" "[B")) (.int (Int32.ofNat (st_len.getD i 0))) ∈ st_fl := by decide +kernel
theorem st_el : ∀ i, i < 6 → ∀ j, j < st_len.getD i 0 → Cond.eq (.elem (.field (st_tm i) "java/lang/String" "value" "[B") (.int (Int32.ofNat j))) (.int ((st_byt.getD i []).getD j 0)) ∈ st_fl := by decide +kernel
theorem st_ne : ∀ i, i < 6 → ∀ j, j < 6 → i ≠ j → Cond.not (Cond.eq (st_tm i) (st_tm j)) ∈ st_fl ∨ Cond.not (Cond.eq (st_tm j) (st_tm i)) ∈ st_fl := by decide +kernel
theorem st_sm : ∀ i, i < 6 → st_len.getD i 0 < 2 ^ 31 := by decide +kernel
theorem st_pa : Cond.arrayOf (.static "DecimalReader$Value" "POWERS_OF_TEN" "[I") .int ∈ st_fl := by decide +kernel
theorem st_pl : Cond.eq (.length (.static "DecimalReader$Value" "POWERS_OF_TEN" "[I")) (.int (Int32.ofNat 9)) ∈ st_fl := by decide +kernel
theorem st_pe : ∀ j, j < 9 → Cond.eq (.elem (.static "DecimalReader$Value" "POWERS_OF_TEN" "[I") (.int (Int32.ofNat j))) (.int (nI (10 ^ j))) ∈ st_fl := by decide +kernel
theorem st_cs : Cond.eq (.static "java/lang/String" "COMPACT_STRINGS" "Z") (.int 1) ∈ st_fl := by decide +kernel
theorem st_q : Cond.isRef (.static "jdk/internal/util/Preconditions" "SIOOBE_FORMATTER" "Ljava/util/function/BiFunction;") ∈ st_fl ∧ Cond.isRef (.static "java/lang/Throwable" "UNASSIGNED_STACK" "[Ljava/lang/StackTraceElement;") ∈ st_fl ∧ Cond.isRef (.static "java/lang/Throwable" "SUPPRESSED_SENTINEL" "Ljava/util/List;") ∈ st_fl := by decide +kernel
theorem st_m : Cond.exactly (.string "DecimalReader" 38) "java/lang/String" ∈ st_fl ∧ Cond.exactly (.string "DecimalReader" 49) "java/lang/String" ∈ st_fl ∧ Cond.exactly (.string "DecimalReader" 58) "java/lang/String" ∈ st_fl := by decide +kernel
theorem st_mm : Cond.eq (.string "DecimalReader" 97) (.string "DecimalReaderModel" 117) ∈ st_fl ∧ Cond.eq (.string "DecimalReader" 103) (.string "DecimalReaderModel" 126) ∈ st_fl := by decide +kernel
theorem st_zw : (Cond.laysStatic "DecimalReader$Value" "POWERS_OF_TEN" "[I" ∈ lw_tbl ∧ Cond.initialized "DecimalReader$Value" ∈ lw_tbl) ∧ (Cond.laysStatic "java/lang/String" "COMPACT_STRINGS" "Z" ∈ lw_tbl ∧ Cond.initialized "java/lang/String" ∈ lw_tbl) ∧ (Cond.laysStatic "jdk/internal/util/Preconditions" "SIOOBE_FORMATTER" "Ljava/util/function/BiFunction;" ∈ lw_tbl ∧ Cond.initialized "jdk/internal/util/Preconditions" ∈ lw_tbl) ∧ (Cond.laysStatic "java/lang/Throwable" "UNASSIGNED_STACK" "[Ljava/lang/StackTraceElement;" ∈ lw_tbl ∧ Cond.laysStatic "java/lang/Throwable" "SUPPRESSED_SENTINEL" "Ljava/util/List;" ∈ lw_tbl ∧ Cond.initialized "java/lang/Throwable" ∈ lw_tbl) := by decide +kernel
theorem st_sr : (Cond.stringRef "DecimalReader" 97 "NaN" ∈ lw_tbl ∧ Cond.stringRef "DecimalReader" 103 "Infinity" ∈ lw_tbl ∧ Cond.stringRef "DecimalReader" 152 "f" ∈ lw_tbl ∧ Cond.stringRef "DecimalReader" 154 "F" ∈ lw_tbl ∧ Cond.stringRef "DecimalReader" 156 "d" ∈ lw_tbl ∧ Cond.stringRef "DecimalReader" 158 "D" ∈ lw_tbl ∧ Cond.stringRef "DecimalReaderModel" 117 "NaN" ∈ lw_tbl ∧ Cond.stringRef "DecimalReaderModel" 126 "Infinity" ∈ lw_tbl) ∧ Cond.stringRef "DecimalReader" 38 "the tape has no room for 20 bytes more" ∈ lw_tbl ∧ Cond.stringRef "DecimalReader" 49 "the tape has no such length to keep" ∈ lw_tbl ∧ Cond.stringRef "DecimalReader" 58 "the tape is no number text" ∈ lw_tbl := by decide +kernel
theorem st_eqR {args : Array Value} {s : State} {t u : Term} {a : Nat} (h : (Cond.eq t u).before args s = true) (ht : t.eval args s none [] s = some (.ref a)) : u.eval args s none [] s = some (.ref a) := by
  cases hv : u.eval args s none [] s with
  | none => simp [Cond.before, Cond.holds, Cond.value, ht, hv] at h
  | some w =>
    simp only [Cond.before, Cond.holds, Cond.value, ht, hv] at h
    cases w <;> simp_all
theorem st_ref {args : Array Value} {s : State} {t : Term} {k : String} (h : (Cond.exactly t k).before args s = true) : ∃ a : Nat, t.eval args s none [] s = some (.ref a) := by
  obtain ⟨a, c, cA, kA, q1, -⟩ := Cond.exactly_spec (args := args) (first := s) (o := none) (s := s) (idx := []) (t := t) (cls := k) h
  exact ⟨a, q1⟩
theorem st_E {args : Array Value} {s : State} (hts : ∀ w ∈ lw_tbl, w.before args s = true) (hgv : (Jvm.Cond.and given_1 narrow_1).before args s = true) : ∃ X : jX, jE X (fun q => s.heap.size ≤ q) s s.heap := by
  have hA : ∀ a : Nat, a < s.heap.size → ¬ (fun q : Nat => s.heap.size ≤ q) a := fun a h => Nat.not_le.mpr h
  have hf : ∀ w ∈ st_fl, w.before args s = true := flat_of_before _ hgv
  obtain ⟨adK, adV, hS, hev⟩ := vk_Sof (N := 6) (tm := st_tm) (len := st_len) (byt := st_byt) st_sm (fun i hi => hf _ (st_ex i hi)) (fun i hi => hf _ (st_co i hi)) (fun i hi => hf _ (st_ar i hi)) (fun i hi => hf _ (st_le i hi)) (fun i hi j hj => hf _ (st_el i hi j hj)) (fun i j hi hj h => (st_ne i hi j hj h).imp (hf _) (hf _)) hA
  obtain ⟨t, ht, hT⟩ := va_Tof (f := fun j => .int (nI (10 ^ j))) (by decide) (hf _ st_pa) (va_eqt (hf _ st_pl)) (fun j hj => va_eqt (hf _ (st_pe j hj))) hA
  obtain ⟨a1, e1⟩ := st_ref (hf _ st_m.1)
  obtain ⟨a2, e2⟩ := st_ref (hf _ st_m.2.1)
  obtain ⟨a3, e3⟩ := st_ref (hf _ st_m.2.2)
  obtain ⟨⟨z1, z2⟩, ⟨z3, z4⟩, ⟨z5, z6⟩, z7, z8, z9⟩ := st_zw
  obtain ⟨⟨r1, r2, r3, r4, r5, r6, r7, r8⟩, r9, r10, r11⟩ := st_sr
  have h0 := hev 0 (by decide)
  have h1 := hev 1 (by decide)
  have h2 := hev 2 (by decide)
  have h3 := hev 3 (by decide)
  have h4 := hev 4 (by decide)
  have h5 := hev 5 (by decide)
  exact ⟨(t, adK, adV), va_Zof (hts _ z1) (hts _ z2) ht hA, hT, va_Zof (hts _ z3) (hts _ z4) (va_eqt (hf _ st_cs)) hA, hS,
    ⟨va_Zqof (hts _ z5) (hts _ z6) (hf _ st_q.1) hA, vx_Zqof (hts _ z7) (hts _ z9) (hf _ st_q.2.1) hA, vx_Zqof (hts _ z8) (hts _ z9) (hf _ st_q.2.2) hA⟩,
    ⟨vk_R.of (hts _ r1) h0, vk_R.of (hts _ r2) h1, vk_R.of (hts _ r3) h2, vk_R.of (hts _ r4) h3, vk_R.of (hts _ r5) h4, vk_R.of (hts _ r6) h5, vk_R.of (hts _ r7) (st_eqR (hf _ st_mm.1) h0), vk_R.of (hts _ r8) (st_eqR (hf _ st_mm.2) h1)⟩, a1, a2, a3, vk_R.of (hts _ r9) e1, vk_R.of (hts _ r10) e2, vk_R.of (hts _ r11) e3⟩
