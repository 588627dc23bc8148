/-! what is made stands in the relation -/
theorem made_0 : iAll 1 1 = 0 ∧ iAll 68 1 = 0 ∧ iAll 73 0 = 0 ∧ iAll 73 2 = 0 ∧ iAll 22 3 = 0 ∧ iAll 24 3 = 0 ∧ iAll 26 3 = 0 ∧ iAll 82 280 = 0 ∧ iAll 82 281 = 0 ∧ iAll 82 282 = 0 := by decide +kernel
theorem made_w : ∀ a, a < 5 → ∀ b, b < 5 → iAll 5 (prN a b) = 0 ∧ iAll 75 (5 * a + b) = 0 := by decide +kernel
theorem made_c : (∀ i, i < 10 → iAll 70 i = cutsL.getD i 0) ∧ (∀ i, i < 40 → iAll 71 i = lettL.getD i 0) ∧ (∀ i, i < 8 → iAll 72 i = plaiL.getD i 0) := by decide +kernel
theorem made_s : (iAll 60 1 = -1 ∧ iAll 62 1 = -1 ∧ iAll 64 1 = -1 ∧ iAll 66 1 = -1) ∧ (iAll 60 2 = 0 ∧ iAll 62 2 = 0 ∧ iAll 64 2 = 0 ∧ iAll 66 2 = 0) ∧ (∀ k, k < 4 → iAll 91 k = -4 ∧ iAll 92 k = 0) ∧ (∀ i, i < 40 → iAll 61 i = 0 ∧ iAll 63 i = 0 ∧ iAll 65 i = 0 ∧ iAll 67 i = 0) ∧ ∀ i, i < 160 → iAll 93 i = 0 := by decide +kernel
theorem made_r : (iAll 22 1 = 3 ∧ iAll 22 0 = 24) ∧ (iAll 24 1 = 8 ∧ iAll 24 0 = 12) ∧ (iAll 26 1 = 5 ∧ iAll 26 0 = 24) ∧ (iAll 47 1 = 3 ∧ iAll 47 0 = 24 ∧ iAll 47 3 = 0) ∧ (iAll 49 1 = 8 ∧ iAll 49 0 = 12 ∧ iAll 49 3 = 0) ∧ (iAll 51 1 = 5 ∧ iAll 51 0 = 24 ∧ iAll 51 3 = 0) ∧ (iAll 54 1 = 3 ∧ iAll 54 0 = 24 ∧ iAll 54 3 = 0) ∧ (iAll 56 1 = 8 ∧ iAll 56 0 = 12 ∧ iAll 56 3 = 0) ∧ (iAll 58 1 = 5 ∧ iAll 58 0 = 24 ∧ iAll 58 3 = 0) := by decide +kernel
theorem made_p : (iAll 3 6 = 0 ∧ iAll 3 7 = 0 ∧ iAll 3 8 = 0 ∧ iAll 3 9 = 0 ∧ iAll 3 10 = 999) ∧ (iAll 9 0 = 1 ∧ iAll 9 1 = 2 ∧ iAll 9 2 = 1) ∧ (iAll 73 1 = 0 ∧ iAll 73 3 = 1 ∧ iAll 73 4 = 2 ∧ iAll 73 5 = 1 ∧ iAll 73 6 = 0 ∧ iAll 73 7 = 999) ∧ (iAll 46 4 = 0 ∧ iAll 53 4 = 0 ∧ iAll 90 0 = 0 ∧ iAll 90 1 = 0) ∧ (iAll 0 12 = 0 ∧ iAll 0 13 = 0 ∧ iAll 68 2 = 0 ∧ iAll 68 37 = 0) := by decide +kernel
theorem Rel_made : Rel iAll := by
  obtain ⟨a1, a2, a3, a4, a5, a6, a7, a8, a9, a10⟩ := made_0
  obtain ⟨⟨p1, p2, p3, p4, p5⟩, ⟨m1, m2, m3⟩, ⟨u1, u3, u4, u5, u6, u7⟩, ⟨k1, k2, k3, k4⟩, f1, f2, f3, f4⟩ := made_p
  obtain ⟨⟨s1, s2, s3, s4⟩, ⟨t1, t2, t3, t4⟩, ln, cl, cM⟩ := made_s
  obtain ⟨⟨r1, r2⟩, ⟨r3, r4⟩, ⟨r5, r6⟩, ⟨q1, q2, q3⟩, ⟨q4, q5, q6⟩, ⟨q7, q8, q9⟩, ⟨w1, w2, w3⟩, ⟨w4, w5, w6⟩, w7, w8, w9⟩ := made_r
  have z0 : (0 : Int32).toInt = 0 := rfl
  have o1 : (1 : Int32).toInt = 1 := rfl
  have o2 : (2 : Int32).toInt = 2 := rfl
  have o9 : (999 : Int32).toInt = 999 := rfl
  refine ⟨?_, ?_, ?_, ?_, ?_, ?_, made_c, by rw [f1, f3], by rw [f2, f4]⟩
  · rw [a1, a2]
    exact ⟨rfl, by decide, by decide, fun k hk => by omega⟩
  · unfold RPlanI
    refine ⟨⟨by rw [p1, a3], by rw [a3]; exact ⟨by decide, by decide⟩⟩, by rw [p2, u1], ⟨by rw [p3, a4], by rw [a4]; exact ⟨by decide, by decide⟩⟩, ⟨by rw [m1, u3], by rw [m2, u4], by rw [m3, u5]⟩, ⟨by rw [u3]; exact ⟨by decide, by decide⟩, by rw [u4]; exact ⟨by decide, by decide⟩, by rw [u5]; exact ⟨by decide, by decide⟩, by rw [u3, u4, u5]; decide⟩, ⟨by rw [p4, u6], by rw [u6]; exact ⟨by decide, by decide⟩⟩, ⟨by rw [p5, u7], by rw [u7]; exact ⟨by decide, by decide⟩⟩, fun i hi => ?_, fun a b ha hb => ?_, fun s hs => ?_⟩
    · rw [a3] at hi; omega
    · have := made_w a ha b hb
      rw [this.1, this.2]
      exact ⟨rfl, ⟨by decide, by decide⟩, fun y => by omega⟩
    · rw [a4] at hs; omega
  · unfold RRows rokF
    rw [r1, r2, r3, r4, r5, r6, q1, q2, q3, q4, q5, q6, q7, q8, q9, w1, w2, w3, w4, w5, w6, w7, w8, w9, a5, a6, a7]
    decide
  · unfold RLedI
    refine ⟨⟨by rw [a5]; exact a8.symm, fun k hk => ?_⟩, ⟨by rw [a6]; exact a9.symm, fun k hk => ?_⟩, by rw [a7]; exact a10.symm, fun k hk => ?_⟩
    · rw [a5] at hk; omega
    · rw [a6] at hk; omega
    · rw [a7] at hk; omega
  · unfold RImgI
    rw [k1, k2, k3, k4]
    exact ⟨⟨rfl, Or.inl rfl⟩, rfl, Or.inl rfl⟩
  · have sh : ∀ (A Bc k : Nat), k < 4 → iAll A 1 = -1 → iAll A 2 = 0 → (∀ i, i < 40 → iAll Bc i = 0) → RSheet (iAll A) (iAll Bc) (iAll 91) (iAll 92) (iAll 93) k := fun A Bc k hk h1 h2 h3 => by
      have l := ln k hk
      refine ⟨Or.inl ⟨h1, l.1⟩, by rw [h2, l.2], by rw [l.2]; exact ⟨by decide, by decide⟩, fun i hi => ?_⟩
      rw [h3 i hi, cM _ (by omega)]
    exact ⟨sh 60 61 0 (by omega) s1 t1 (fun i hi => (cl i hi).1), sh 62 63 1 (by omega) s2 t2 (fun i hi => (cl i hi).2.1), sh 64 65 2 (by omega) s3 t3 (fun i hi => (cl i hi).2.2.1), sh 66 67 3 (by omega) s4 t4 (fun i hi => (cl i hi).2.2.2)⟩
