/-! THE SPECIFICATION BETWEEN BOTH SIDES: what a number text is worth -/
def ei (t : Nat → Int32) (me : Bool) (c5 n3 : Nat) : Int := if me then -(xT t c5 n3 : Int) else (xT t c5 n3 : Int)
def numR (p u inf : Nat) (t : Nat → Int32) (b z s : Nat) : Prop := ∃ (hx : Bool) (c0 n1 n2 c2 c3 : Nat) (me : Bool) (c5 n3 c6 : Nat), scN t b z hx c0 n1 n2 c2 c3 me c5 n3 c6 ∧
  (hx = true → kR p u inf (xN (hv 16 (tdg t c0 n1 c2 (n1 + n2)) (n1 + n2)) (ei t me c5 n3 - 4 * (n2 : Int))) (xM (ei t me c5 n3 - 4 * (n2 : Int))) s) ∧
  (hx = false → kR p u inf (dN (hv 10 (tdg t c0 n1 c2 (n1 + n2)) (n1 + n2)) (ei t me c5 n3 - (n2 : Int))) (dM (ei t me c5 n3 - (n2 : Int))) s)
theorem me_eq {me me' : Bool} (h : me = true ↔ me' = true) : me = me' := by
  cases me <;> cases me'
  · rfl
  · exact absurd (h.mpr rfl) (by decide)
  · exact absurd (h.mp rfl) (by decide)
  · rfl
theorem numR_unique {p u inf : Nat} {t : Nat → Int32} {b z s s' : Nat} (h : numR p u inf t b z s) (h' : numR p u inf t b z s') : s = s' := by
  obtain ⟨hx, c0, n1, n2, c2, c3, me, c5, n3, c6, ⟨a1, a2, a3, a4⟩, a5, a6⟩ := h
  obtain ⟨hx', c0', n1', n2', c2', c3', me', c5', n3', c6', ⟨b1, b2, b3, b4⟩, b5, b6⟩ := h'
  obtain ⟨rfl, rfl, rfl, rfl, rfl, rfl⟩ := scD_fun a1 b1
  obtain ⟨-, hme, rfl, rfl, rfl⟩ := scE_fun a3 b3
  have := me_eq hme
  subst this
  cases hx with
  | true => exact kR_unique (a5 rfl) (b5 rfl)
  | false => exact kR_unique (a6 rfl) (b6 rfl)
theorem scD_dgs {t : Nat → Int32} {b z : Nat} {hx : Bool} {c0 n1 n2 c2 c3 : Nat} (hz : z ≤ 8192) (hb : b ≤ z) (h : scD t b z hx c0 n1 n2 c2 c3) : dgs t (if hx then 16 else 10) c0 n1 c2 c3 (n1 + n2) := by
  have hle := scD_le hb h
  obtain ⟨h1, h2, h3, h4, h5⟩ := h
  have hr := rn_in t (if hx then 16 else 10) (z - c0) c0
  refine ⟨by omega, by omega, by omega, ?_, ?_, ?_⟩
  · intro i hi
    rw [h3] at hi
    exact hr i hi
  · intro i hi
    rcases h4 with ⟨g1, g2, g3⟩ | ⟨g1, g2, g3⟩
    · exact rn_in t (if hx then 16 else 10) (z - c2) c2 i (by rw [← g3]; omega)
    · omega
  · rcases h4 with ⟨g1, g2, g3⟩ | ⟨g1, g2, g3⟩
    · exact Or.inl ⟨g2, g1.2⟩
    · exact Or.inr ⟨g2, by omega⟩
/-- what bits must give -/
def okB (t : Nat → Int32) (b z : Nat) (hg mo : Int32) (w : Nat) : Prop := (∀ s, rdS_d hg mo w s → numR 52 14 9218868437227405312 t b z s) ∧ (∀ s, rdS_f hg mo w s → numR 23 939 2139095040 t b z s)
theorem p1216 : 2 ^ 1216 ≤ 2 ^ 2112 := by decide +kernel
/-- one kind's rounding out of the bits: either too large, or the bits say the number -/
theorem okB_of {t : Nat → Int32} {b z : Nat} {hg mo : Int32} {w N M : Nat} (hM : 0 < M) (hN : ∀ p u inf s, kR p u inf N M s → numR p u inf t b z s) (h1 : hg ≠ 0 → 2 ^ 2112 * M ≤ N) (h2 : hg = 0 → kA w (decide (mo ≠ 0)) N M) : okB t b z hg mo w := by
  refine ⟨fun s hs => hN _ _ _ _ ?_, fun s hs => hN _ _ _ _ ?_⟩
  · obtain ⟨-, a1, a2⟩ := hs
    by_cases hg0 : hg = 0
    · exact a2 hg0 N M hM (h2 hg0)
    · rw [a1 hg0]
      refine kR_inf (by decide) hM ?_
      rw [kG_inf_d]
      exact h1 hg0
  · obtain ⟨-, a1, a2⟩ := hs
    by_cases hg0 : hg = 0
    · exact a2 hg0 N M hM (h2 hg0)
    · rw [a1 hg0]
      refine kR_inf (by decide) hM ?_
      rw [kG_inf_f]
      exact Nat.le_trans (Nat.mul_le_mul_right M p1216) (h1 hg0)
theorem dec_mo {A : Prop} {mo : Int32} (h : mo ≠ 0 ↔ A) : decide (mo ≠ 0) = true ↔ A := by
  rw [decide_eq_true_eq]
  exact h
theorem exv_toInt {t : Nat → Int32} {me : Bool} {c5 n3 : Nat} (hd : ∀ i, i < n3 → dg (t (c5 + i)) < 10) : (if me then -nI (xC t c5 1000000 n3) else nI (xC t c5 1000000 n3) : Int32).toInt = (if me then -(xC t c5 1000000 n3 : Int) else (xC t c5 1000000 n3 : Int)) := by
  have := xC_lt (t := t) (c := c5) (lim := 1000000) n3 hd (by omega)
  cases me
  · exact nI_toInt (by omega)
  · exact sb_negT (by omega)
theorem scE_dig {t : Nat → Int32} {c3 z : Nat} {hx ok : Bool} {mi : Prop} {c5 n3 c6 : Nat} (h : scE t c3 z hx ok mi c5 n3 c6) : ∀ i, i < n3 → dg (t (c5 + i)) < 10 := by
  intro i hi
  rcases h with ⟨-, -, -, h1, h2, h3⟩ | ⟨-, -, -, h3, -, -⟩
  · omega
  · exact rn_in t 10 (z - c5) c5 i (by rw [← h3]; exact hi)
theorem dec_ok {t : Nat → Int32} {b z : Nat} {c0 n1 n2 c2 c3 : Nat} {me : Bool} {c5 n3 c6 : Nat} (hz : z ≤ 8192) (hb : b ≤ z) (h : scN t b z false c0 n1 n2 c2 c3 me c5 n3 c6) {hg mo : Int32} {w : Nat} {exv : Int32} (hex : exv = (if me then -nI (xC t c5 1000000 n3) else nI (xC t c5 1000000 n3)))
    (h1 : w = adS 10 1395 (tdg t c0 n1 c2 (n1 + n2)) (315 - exv.toInt - (n1 : Int)) (n1 + n2) * T34 / B120) (h2 : hg ≠ 0 ↔ adH (tdg t c0 n1 c2 (n1 + n2)) (315 - exv.toInt - (n1 : Int)) (n1 + n2)) (h3 : mo ≠ 0 ↔ (adM 1395 (tdg t c0 n1 c2 (n1 + n2)) (315 - exv.toInt - (n1 : Int)) (n1 + n2) ∨ adS 10 1395 (tdg t c0 n1 c2 (n1 + n2)) (315 - exv.toInt - (n1 : Int)) (n1 + n2) * T34 % B120 ≠ 0)) : okB t b z hg mo w := by
  have hs := h.1
  have hE := h.2.2.1
  have hdg := scE_dig hE
  have hle := scD_le hb hs
  have hD : dgs t 10 c0 n1 c2 c3 (n1 + n2) := scD_dgs hz hb hs
  have hev : exv.toInt = (if me then -(xC t c5 1000000 n3 : Int) else (xC t c5 1000000 n3 : Int)) := by rw [hex]; exact exv_toInt hdg
  have hn : n1 + n2 ≤ 8192 := by omega
  have hcut := xC_eq (t := t) (c := c5) (lim := 1000000) (by omega) n3
  have hst : 315 - (ei t me c5 n3 - (n2 : Int)) - ((n1 + n2 : Nat) : Int) = 315 - ei t me c5 n3 - (n1 : Int) := by omega
  have hsame : adS 10 1395 (tdg t c0 n1 c2 (n1 + n2)) (315 - exv.toInt - (n1 : Int)) (n1 + n2) = adS 10 1395 (tdg t c0 n1 c2 (n1 + n2)) (315 - ei t me c5 n3 - (n1 : Int)) (n1 + n2) ∧ (adH (tdg t c0 n1 c2 (n1 + n2)) (315 - exv.toInt - (n1 : Int)) (n1 + n2) ↔ adH (tdg t c0 n1 c2 (n1 + n2)) (315 - ei t me c5 n3 - (n1 : Int)) (n1 + n2)) ∧ (adM 1395 (tdg t c0 n1 c2 (n1 + n2)) (315 - exv.toInt - (n1 : Int)) (n1 + n2) ↔ adM 1395 (tdg t c0 n1 c2 (n1 + n2)) (315 - ei t me c5 n3 - (n1 : Int)) (n1 + n2)) := by
    rcases hcut with ⟨k1, k2⟩ | ⟨k1, k2⟩
    · have : exv.toInt = ei t me c5 n3 := by
        rw [hev]
        unfold ei
        rw [k2]
      rw [this]
      exact ⟨rfl, Iff.rfl, Iff.rfl⟩
    · refine ad_far ?_
      rw [hev]
      unfold ei
      cases me
      · right
        simp only [Bool.false_eq_true, if_false]
        omega
      · left
        simp only [if_true]
        omega
  rw [hsame.1] at h1 h3
  rw [hsame.2.1] at h2
  rw [hsame.2.2] at h3
  rw [← hst] at h1 h2 h3
  have hlt := tdg_lt (b := 10) (by decide) hD
  refine okB_of (dM_pos (ei t me c5 n3 - (n2 : Int))) (fun p u inf s hk => ⟨false, c0, n1, n2, c2, c3, me, c5, n3, c6, h, fun q => absurd q (by decide), fun _ => hk⟩) (fun q => dec_big (h2.mp q)) (fun q => dec_bits hlt (fun y => (h2.mpr y) q) h1 (dec_mo h3))
theorem hex_ok {t : Nat → Int32} {b z : Nat} {c0 n1 n2 c2 c3 : Nat} {me : Bool} {c5 n3 c6 : Nat} (hz : z ≤ 8192) (hb : b ≤ z) (h : scN t b z true c0 n1 n2 c2 c3 me c5 n3 c6) {hg mo : Int32} {w : Nat} {exv : Int32} (hex : exv = (if me then -nI (xC t c5 1000000 n3) else nI (xC t c5 1000000 n3)))
    (h1 : w = adS 2 2144 (bdg (tdg t c0 n1 c2 (n1 + n2))) (1056 - exv.toInt - 4 * (n1 : Int)) (4 * (n1 + n2))) (h2 : hg ≠ 0 ↔ adH (bdg (tdg t c0 n1 c2 (n1 + n2))) (1056 - exv.toInt - 4 * (n1 : Int)) (4 * (n1 + n2))) (h3 : mo ≠ 0 ↔ adM 2144 (bdg (tdg t c0 n1 c2 (n1 + n2))) (1056 - exv.toInt - 4 * (n1 : Int)) (4 * (n1 + n2))) : okB t b z hg mo w := by
  have hs := h.1
  have hE := h.2.2.1
  have hdg := scE_dig hE
  have hle := scD_le hb hs
  have hD : dgs t 16 c0 n1 c2 c3 (n1 + n2) := scD_dgs hz hb hs
  have hev : exv.toInt = (if me then -(xC t c5 1000000 n3 : Int) else (xC t c5 1000000 n3 : Int)) := by rw [hex]; exact exv_toInt hdg
  have hn : n1 + n2 ≤ 8192 := by omega
  have hcut := xC_eq (t := t) (c := c5) (lim := 1000000) (by omega) n3
  have hst : 1056 - (ei t me c5 n3 - 4 * (n2 : Int)) - ((4 * (n1 + n2) : Nat) : Int) = 1056 - ei t me c5 n3 - 4 * (n1 : Int) := by omega
  have hsame : adS 2 2144 (bdg (tdg t c0 n1 c2 (n1 + n2))) (1056 - exv.toInt - 4 * (n1 : Int)) (4 * (n1 + n2)) = adS 2 2144 (bdg (tdg t c0 n1 c2 (n1 + n2))) (1056 - ei t me c5 n3 - 4 * (n1 : Int)) (4 * (n1 + n2)) ∧ (adH (bdg (tdg t c0 n1 c2 (n1 + n2))) (1056 - exv.toInt - 4 * (n1 : Int)) (4 * (n1 + n2)) ↔ adH (bdg (tdg t c0 n1 c2 (n1 + n2))) (1056 - ei t me c5 n3 - 4 * (n1 : Int)) (4 * (n1 + n2))) ∧ (adM 2144 (bdg (tdg t c0 n1 c2 (n1 + n2))) (1056 - exv.toInt - 4 * (n1 : Int)) (4 * (n1 + n2)) ↔ adM 2144 (bdg (tdg t c0 n1 c2 (n1 + n2))) (1056 - ei t me c5 n3 - 4 * (n1 : Int)) (4 * (n1 + n2))) := by
    rcases hcut with ⟨k1, k2⟩ | ⟨k1, k2⟩
    · have : exv.toInt = ei t me c5 n3 := by
        rw [hev]
        unfold ei
        rw [k2]
      rw [this]
      exact ⟨rfl, Iff.rfl, Iff.rfl⟩
    · refine ad_far ?_
      rw [hev]
      unfold ei
      cases me
      · right
        simp only [Bool.false_eq_true, if_false]
        omega
      · left
        simp only [if_true]
        omega
  rw [hsame.1] at h1
  rw [hsame.2.1] at h2
  rw [hsame.2.2] at h3
  rw [← hst] at h1 h2 h3
  have hlt := tdg_lt (b := 16) (by decide) hD
  have hnum := hv_bdg (tdg t c0 n1 c2 (n1 + n2)) (n1 + n2) hlt
  refine okB_of (xM_pos (ei t me c5 n3 - 4 * (n2 : Int))) (fun p u inf s hk => ⟨true, c0, n1, n2, c2, c3, me, c5, n3, c6, h, fun _ => hk, fun q => absurd q (by decide)⟩) (fun q => ?_) (fun q => ?_)
  · rw [← hnum]
    exact hex_big (h2.mp q)
  · rw [← hnum]
    exact hex_bits (bdg_lt _) (fun y => (h2.mpr y) q) h1 (dec_mo h3)
/-- what an answer of a kind is: nan, or a size with its sign -/
def ansR (p u inf : Nat) (nan : Int64) (sg : Int64) (t : Nat → Int32) (b z : Nat) (mi : Bool) (r : Int64) : Prop :=
  (isW t b z 0 ∧ r = nan) ∨ (¬ isW t b z 0 ∧ isW t b z 1 ∧ r = (if mi then lN inf ||| sg else lN inf)) ∨ (¬ isW t b z 0 ∧ ¬ isW t b z 1 ∧ ∃ s, s ≤ inf ∧ numR p u inf t b z s ∧ r = (if mi then lN s ||| sg else lN s))
/-- a number text -/
def isN (t : Nat → Int32) (b z : Nat) : Prop := isW t b z 0 ∨ isW t b z 1 ∨ scNum t b z
/-- the class's fields behind a scan that found a number text -/
def okF (t : Nat → Int32) (b z : Nat) (fm hg mo : Int32) (w : Nat) : Prop := (isW t b z 0 ∧ fm = 0) ∨ (¬ isW t b z 0 ∧ isW t b z 1 ∧ fm = 1) ∨ (¬ isW t b z 0 ∧ ¬ isW t b z 1 ∧ (fm = 2 ∨ fm = 3) ∧ okB t b z hg mo w)
section RT
variable {l : Launch} {D : va_G} {X : jX} {g : Nat → Nat} {ca : Nat → ClassId} {len ps sp ng fm df dt wg ex hg mo : Int32} {tp lb wo : Nat → Int32}
set_option maxHeartbeats 2000000 in
theorem c_readTape (n : Nat) (hn : n ≤ 8192) : jM l y_readTape b_readTape 2 (some .boolean) (rmD 7) D (tyD ca) X [.ref (g 0)] (wd g ca (nI n) ps sp ng fm df dt wg ex hg mo tp lb wo) (jPi fun r w => ∃ (a z b : Nat) (mi : Bool) (ps2 fm2 df2 dt2 wg2 ex2 hg2 mo2 : Int32) (lb2 wo2 : Nat → Int32), scB tp n a z b mi ∧ ((isN tp b z ∧ r = 1 ∧ okF tp b z fm2 hg2 mo2 (wnum wo2)) ∨ (¬ isN tp b z ∧ r = 0)) ∧ w = wd g ca (0) (ps2) (nI z) (if mi then 1 else 0) (fm2) (df2) (dt2) (wg2) (ex2) (hg2) (mo2) tp (lb2) (wo2)) := by
  refine jM.of [some (.ref (g 0)), none] (by simp [jle, jent, Value.category]) rfl (Nat.le_of_ble_eq_true rfl) ?_
  intro p e s m args below meth c sz hC
  refine j_aloadn0 (pc := 0) hC d_readTape_0 ?_
  refine j_V0i (pc := 1) (q0 := 0) (ci := 0) hC cw_R_65 (rmD_in (by decide)) (Nat.le_of_ble_eq_true rfl) rfl rfl d_readTape_1 (c_scanText n hn) (fun r w2 h1 => ?_)
  obtain ⟨a, z, b, mi, ps2, fm2, df2, dt2, wg2, ex2, hB, hR, rfl⟩ := h1
  have hble := scB_le hB
  have k29 : ∀ (r fm3 df3 dt3 wg3 ex3 hg3 mo3 : Int32) (lb3 wo3 : Nat → Int32), (r = 0 ∨ r = 1) → ((isN tp b z ∧ r = 1 ∧ okF tp b z fm3 hg3 mo3 (wnum wo3)) ∨ (¬ isN tp b z ∧ r = 0)) → J p l e (rmD 7) s m args below meth c D (va_A (wd g ca (nI n) ps sp ng fm df dt wg ex hg mo tp lb wo) sz) 2 (MQ below (jQ D (wd g ca (nI n) ps sp ng fm df dt wg ex hg mo tp lb wo) sz (jPi fun r w => ∃ (a z b : Nat) (mi : Bool) (ps2 fm2 df2 dt2 wg2 ex2 hg2 mo2 : Int32) (lb2 wo2 : Nat → Int32), scB tp n a z b mi ∧ ((isN tp b z ∧ r = 1 ∧ okF tp b z fm2 hg2 mo2 (wnum wo2)) ∨ (¬ isN tp b z ∧ r = 0)) ∧ w = wd g ca (0) (ps2) (nI z) (if mi then 1 else 0) (fm2) (df2) (dt2) (wg2) (ex2) (hg2) (mo2) tp (lb2) (wo2))) args s 0 0 (va_A (wd g ca (nI n) ps sp ng fm df dt wg ex hg mo tp lb wo) sz)) 29 [some (.ref (g 0)), some (.int r)] [] (wd g ca (nI n) (ps2) (nI z) (if mi then 1 else 0) (fm3) (df3) (dt3) (wg3) (ex3) (hg3) (mo3) tp (lb3) (wo3)) := by
    intro r fm3 df3 dt3 wg3 ex3 hg3 mo3 lb3 wo3 h01 hq
    refine j_aloadn0 (pc := 29) hC d_readTape_29 ?_
    refine j_iconst (pc := 30) (v := 0) hC d_readTape_30 (by decide) ?_
    refine jp_R_32 (pc := 31) hC d_readTape_31 ?_
    refine j_iloadn1 (pc := 34) hC d_readTape_34 ?_
    exact j_zret hC (by rcases h01 with rfl | rfl <;> rfl) d_readTape_35 ⟨r, rfl, a, z, b, mi, _, _, _, _, _, _, _, _, _, _, hB, hq, rfl⟩
  rcases hR with ⟨h4, rfl, rfl⟩ | ⟨h4, h5, rfl, rfl⟩ | ⟨h4, h5, hx, c0, n1, n2, c2, c3, me, c5, n3, c6, hN, rfl, rfl, rfl, rfl, rfl, hexv⟩ | ⟨h4, h5, h6, rfl⟩
  · refine j_istoren1 (pc := 4) hC d_readTape_4 (by decide) (by first | exact trivial | exact rfl) ?_
    refine j_iloadn1 (pc := 5) hC d_readTape_5 ?_
    refine j_if_eq (pc := 6) hC 29 d_readTape_6 (by decide) (fun q => ?_) (fun q => ?_)
    · exact absurd q (by decide)
    · refine j_aloadn0 (pc := 9) hC d_readTape_9 ?_
      refine jg_R_68 (pc := 10) hC d_readTape_10 ?_
      refine j_iconst (pc := 13) (v := 2) hC d_readTape_13 (by decide) ?_
      refine j_icmp_eq (pc := 14) hC 25 d_readTape_14 (by decide) (fun q2 => ?_) (fun q2 => ?_)
      · exact absurd q2 (by decide)
      · refine j_aloadn0 (pc := 17) hC d_readTape_17 ?_
        refine jg_R_68 (pc := 18) hC d_readTape_18 ?_
        refine j_iconst (pc := 21) (v := 3) hC d_readTape_21 (by decide) ?_
        refine j_icmp_ne (pc := 22) hC 29 d_readTape_22 (by decide) (fun q3 => ?_) (fun q3 => ?_)
        · exact k29 1 _ _ _ _ _ _ _ _ _ (Or.inr rfl) (Or.inl ⟨Or.inl h4, rfl, Or.inl ⟨h4, rfl⟩⟩)
        · exact absurd q3 (by decide)
  · refine j_istoren1 (pc := 4) hC d_readTape_4 (by decide) (by first | exact trivial | exact rfl) ?_
    refine j_iloadn1 (pc := 5) hC d_readTape_5 ?_
    refine j_if_eq (pc := 6) hC 29 d_readTape_6 (by decide) (fun q => ?_) (fun q => ?_)
    · exact absurd q (by decide)
    · refine j_aloadn0 (pc := 9) hC d_readTape_9 ?_
      refine jg_R_68 (pc := 10) hC d_readTape_10 ?_
      refine j_iconst (pc := 13) (v := 2) hC d_readTape_13 (by decide) ?_
      refine j_icmp_eq (pc := 14) hC 25 d_readTape_14 (by decide) (fun q2 => ?_) (fun q2 => ?_)
      · exact absurd q2 (by decide)
      · refine j_aloadn0 (pc := 17) hC d_readTape_17 ?_
        refine jg_R_68 (pc := 18) hC d_readTape_18 ?_
        refine j_iconst (pc := 21) (v := 3) hC d_readTape_21 (by decide) ?_
        refine j_icmp_ne (pc := 22) hC 29 d_readTape_22 (by decide) (fun q3 => ?_) (fun q3 => ?_)
        · exact k29 1 _ _ _ _ _ _ _ _ _ (Or.inr rfl) (Or.inl ⟨Or.inr (Or.inl h5), rfl, Or.inr (Or.inl ⟨h4, h5, rfl⟩)⟩)
        · exact absurd q3 (by decide)
  · have hnum : scNum tp b z := ⟨hx, c0, n1, n2, c2, c3, me, c5, n3, c6, hN⟩
    have hdg := scE_dig hN.2.2.1
    have hxl := xC_lt (t := tp) (c := c5) (lim := 1000000) n3 hdg (by omega)
    have hexr : -100000000 < ex2.toInt ∧ ex2.toInt < 100000000 := by
      rw [hexv, exv_toInt hdg]
      cases me
      · simp only [Bool.false_eq_true, if_false]; omega
      · simp only [if_true]; omega
    refine j_istoren1 (pc := 4) hC d_readTape_4 (by decide) (by first | exact trivial | exact rfl) ?_
    refine j_iloadn1 (pc := 5) hC d_readTape_5 ?_
    refine j_if_eq (pc := 6) hC 29 d_readTape_6 (by decide) (fun q => ?_) (fun q => ?_)
    · exact absurd q (by decide)
    · cases hx with
      | true =>
        refine j_aloadn0 (pc := 9) hC d_readTape_9 ?_
        refine jg_R_68 (pc := 10) hC d_readTape_10 ?_
        refine j_iconst (pc := 13) (v := 2) hC d_readTape_13 (by decide) ?_
        refine j_icmp_eq (pc := 14) hC 25 d_readTape_14 (by decide) (fun q2 => ?_) (fun q2 => ?_)
        · exact absurd q2 (by decide)
        · refine j_aloadn0 (pc := 17) hC d_readTape_17 ?_
          refine jg_R_68 (pc := 18) hC d_readTape_18 ?_
          refine j_iconst (pc := 21) (v := 3) hC d_readTape_21 (by decide) ?_
          refine j_icmp_ne (pc := 22) hC 29 d_readTape_22 (by decide) (fun q3 => ?_) (fun q3 => ?_)
          · exact absurd rfl q3
          · refine j_aloadn0 (pc := 25) hC d_readTape_25 ?_
            refine j_V0v (pc := 26) (q0 := 0) (ci := 0) hC cw_R_71 (rmD_in (by decide)) (Nat.le_of_ble_eq_true rfl) rfl rfl d_readTape_26 (c_placeDigits_hex c0 n1 c2 c3 (n1 + n2) (scD_dgs (by omega) hble.2.1 hN.1) hexr) (fun w2 h7 => ?_)
            obtain ⟨lb3, wo3, hg3, mo3, y1, y2, y3, rfl⟩ := h7
            exact k29 1 _ _ _ _ _ _ _ _ _ (Or.inr rfl) (Or.inl ⟨Or.inr (Or.inr hnum), rfl, Or.inr (Or.inr ⟨h4, h5, Or.inr rfl, hex_ok (by omega) hble.2.1 hN hexv y1 y2 y3⟩)⟩)
      | false =>
        refine j_aloadn0 (pc := 9) hC d_readTape_9 ?_
        refine jg_R_68 (pc := 10) hC d_readTape_10 ?_
        refine j_iconst (pc := 13) (v := 2) hC d_readTape_13 (by decide) ?_
        refine j_icmp_eq (pc := 14) hC 25 d_readTape_14 (by decide) (fun q2 => ?_) (fun q2 => ?_)
        · refine j_aloadn0 (pc := 25) hC d_readTape_25 ?_
          refine j_V0v (pc := 26) (q0 := 0) (ci := 0) hC cw_R_71 (rmD_in (by decide)) (Nat.le_of_ble_eq_true rfl) rfl rfl d_readTape_26 (c_placeDigits_dec c0 n1 c2 c3 (n1 + n2) (scD_dgs (by omega) hble.2.1 hN.1) hexr) (fun w2 h7 => ?_)
          obtain ⟨lb3, wo3, hg3, mo3, y1, y2, y3, rfl⟩ := h7
          exact k29 1 _ _ _ _ _ _ _ _ _ (Or.inr rfl) (Or.inl ⟨Or.inr (Or.inr hnum), rfl, Or.inr (Or.inr ⟨h4, h5, Or.inl rfl, dec_ok (by omega) hble.2.1 hN hexv y1 y2 y3⟩)⟩)
        · exact absurd rfl q2
  · refine j_istoren1 (pc := 4) hC d_readTape_4 (by decide) (by first | exact trivial | exact rfl) ?_
    refine j_iloadn1 (pc := 5) hC d_readTape_5 ?_
    refine j_if_eq (pc := 6) hC 29 d_readTape_6 (by decide) (fun q => ?_) (fun q => ?_)
    · exact k29 0 _ _ _ _ _ _ _ _ _ (Or.inl rfl) (Or.inr ⟨fun y => y.elim h4 (fun y => y.elim h5 h6), rfl⟩)
    · exact absurd rfl q
end RT

