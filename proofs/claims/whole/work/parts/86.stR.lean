/-! layer 2: a stage under reading after one more actor, scene, kind -/
section
variable {sc sm s t : fSt} {q : Nat} {G G' : Nat → Nat}
theorem stR_act {v1 v2 v3 : Nat} (S : sgR sc sm q G) (hlt : G 1 < 6) (hv : v1 ≤ 99 ∧ v2 ≤ 999 ∧ v3 < 64)
    (g1 : G' 1 = G 1 + 1) (g2 : G' (7 + G 1) = v1) (g3 : G' (13 + G 1) = v2) (g4 : G' (19 + G 1) = v3) (hG : ∀ k, (k ≠ 1 ∧ k ≠ 7 + G 1 ∧ k ≠ 13 + G 1 ∧ k ≠ 19 + G 1) → G' k = G k)
    (x1 : gI s 7 q 1 = nI (G 1 + 1)) (xi : ∀ k, k ≠ 1 → gI s 7 q k = gI sc 7 q k) (xa : ∀ k m, k < 20 ∧ ¬ (m = G 1 ∧ (k = 5 ∨ k = 6 ∨ k = 7)) → gA s 7 q k m = gA sc 7 q k m) (xb : ∀ k m, ¬ (m = G 1 ∧ k = 2) → gB s 7 q k m = gB sc 7 q k m)
    (x5 : gA s 7 q 5 (G 1) = nI v1) (x6 : gA s 7 q 6 (G 1) = nI v2) (x7 : gA s 7 q 7 (G 1) = nI v3)
    (y1 : gA t 12 0 5 1721 = nI (G 1 + 1)) (ya : ∀ k, (k ≠ 1 ∧ k ≠ 7 + G 1 ∧ k ≠ 13 + G 1 ∧ k ≠ 19 + G 1) → gA t 12 0 5 (1720 + k) = gA sm 12 0 5 (1720 + k)) (yb : ∀ m, m ≠ 118 + G 1 → gB t 12 0 7 m = gB sm 12 0 7 m)
    (y5 : gA t 12 0 5 (1720 + (7 + G 1)) = nI v1) (y6 : gA t 12 0 5 (1720 + (13 + G 1)) = nI v2) (y7 : gA t 12 0 5 (1720 + (19 + G 1)) = nI v3) (hn : gB s 7 q 2 (G 1) = gB t 12 0 7 (118 + G 1)) : sgR s t q G' := by
  obtain ⟨⟨⟨w0, w1, w2, w3⟩, w4, w5, w6, w7, w8⟩, ⟨⟨c0, c1, c2, c3, c4, c5, c6⟩, c7, c8, c9, c10, c11, c12⟩, ⟨⟨t0, t1, t2, t3⟩, t4, t5, t6⟩, ⟨n0, n1, n2, n3⟩, z4, z5, z6, z7, z8⟩ := S
  have e0 := hG 0 (by omega)
  have e2 := hG 2 (by omega)
  have e3 := hG 3 (by omega)
  have e4 := hG 4 (by omega)
  have e5 := hG 5 (by omega)
  have e6 := hG 6 (by omega)
  have e17 := hG 217 (by omega)
  have e18 := hG 218 (by omega)
  refine ⟨⟨⟨by omega, by omega, by omega, by omega⟩, by omega, fun a ha => ?_, fun s hs => ?_, fun k hk => ?_, fun i hi => by omega⟩, ⟨⟨?_, ?_, ?_, ?_, ?_, ?_, ?_⟩, fun a ha => ?_, fun s hs => ?_, fun k hk => ?_, fun i hi => by omega, ?_, fun j hj => by omega⟩, ⟨⟨?_, ?_, ?_, ?_⟩, fun a ha => ?_, fun s hs => ?_, fun k hk => ?_⟩, ⟨fun k hk => ?_, fun k hk => ?_, fun k hk => ?_, fun k hk => ?_⟩, by omega, by omega, by omega, by omega, by omega⟩
  · by_cases h : a = G 1
    · rw [h, g2, g3, g4]; exact hv
    · rw [hG (7 + a) (by omega), hG (13 + a) (by omega), hG (19 + a) (by omega)]; exact w5 a (by omega)
  · rw [hG (25 + s) (by omega), hG (37 + s) (by omega), hG (49 + s) (by omega), hG (61 + s) (by omega), hG (73 + s) (by omega), hG (85 + s) (by omega), hG (97 + s) (by omega), hG (109 + s) (by omega), e0]
    exact w6 s (by omega)
  · rw [hG (121 + k) (by omega), hG (125 + k) (by omega), hG (129 + k) (by omega), hG (133 + k) (by omega)]; exact w7 k (by omega)
  · rw [e0]; exact (ya 0 (by omega)).trans c0
  · rw [g1]; exact y1
  · rw [e2]; exact (ya 2 (by omega)).trans c2
  · rw [e3]; exact (ya 3 (by omega)).trans c3
  · rw [e4]; exact (ya 4 (by omega)).trans c4
  · rw [e5]; exact (ya 5 (by omega)).trans c5
  · rw [e6]; exact (ya 6 (by omega)).trans c6
  · by_cases h : a = G 1
    · rw [h, g2, g3, g4]; exact ⟨y5, y6, y7⟩
    · have h := c7 a (by omega)
      rw [hG (7 + a) (by omega), hG (13 + a) (by omega), hG (19 + a) (by omega)]
      exact ⟨(ya _ (by omega)).trans h.1, (ya _ (by omega)).trans h.2.1, (ya _ (by omega)).trans h.2.2⟩
  · have h := c8 s (by omega)
    rw [hG (25 + s) (by omega), hG (37 + s) (by omega), hG (49 + s) (by omega), hG (61 + s) (by omega), hG (73 + s) (by omega), hG (85 + s) (by omega), hG (97 + s) (by omega), hG (109 + s) (by omega)]
    exact ⟨(ya _ (by omega)).trans h.1, (ya _ (by omega)).trans h.2.1, (ya _ (by omega)).trans h.2.2.1, (ya _ (by omega)).trans h.2.2.2.1, (ya _ (by omega)).trans h.2.2.2.2.1, (ya _ (by omega)).trans h.2.2.2.2.2.1, (ya _ (by omega)).trans h.2.2.2.2.2.2.1, (ya _ (by omega)).trans h.2.2.2.2.2.2.2⟩
  · have h := c9 k (by omega)
    rw [hG (121 + k) (by omega), hG (125 + k) (by omega), hG (129 + k) (by omega), hG (133 + k) (by omega)]
    exact ⟨(ya _ (by omega)).trans h.1, (ya _ (by omega)).trans h.2.1, (ya _ (by omega)).trans h.2.2.1, (ya _ (by omega)).trans h.2.2.2⟩
  · rw [e17, e18]
    exact ⟨(ya 217 (by omega)).trans c11.1, (ya 218 (by omega)).trans c11.2.1, c11.2.2⟩
  · rw [e0, xi 0 (by omega)]; exact t0
  · rw [g1]; exact x1
  · rw [e2, xi 2 (by omega)]; exact t2
  · rw [e3, xi 3 (by omega)]; exact t3
  · by_cases h : a = G 1
    · rw [h, g2, g3, g4]; exact ⟨x5, x6, x7⟩
    · rw [hG (7 + a) (by omega), hG (13 + a) (by omega), hG (19 + a) (by omega), xa _ _ (by omega), xa _ _ (by omega), xa _ _ (by omega)]; exact t4 a (by omega)
  · rw [hG (25 + s) (by omega), hG (37 + s) (by omega), hG (49 + s) (by omega), hG (61 + s) (by omega), hG (73 + s) (by omega), hG (85 + s) (by omega), hG (97 + s) (by omega), hG (109 + s) (by omega)]
    simp (disch := omega) only [xa]
    exact t5 s (by omega)
  · rw [hG (121 + k) (by omega), hG (125 + k) (by omega), hG (129 + k) (by omega), hG (133 + k) (by omega)]
    simp (disch := omega) only [xa]
    exact t6 k (by omega)
  · show gB s 7 q 1 k = gB t 12 0 7 (112 + k)
    rw [xb _ _ (by omega), yb _ (by omega)]
    exact n0 k (by omega)
  · show gB s 7 q 2 k = gB t 12 0 7 (112 + (6 + k))
    by_cases h : k = G 1
    · rw [h, hn, ← Nat.add_assoc]
    · rw [xb _ _ (by omega), yb _ (by omega)]
      exact n1 k (by omega)
  · show gB s 7 q 3 k = gB t 12 0 7 (112 + (12 + k))
    rw [xb _ _ (by omega), yb _ (by omega)]
    exact n2 k (by omega)
  · show gB s 7 q 4 k = gB t 12 0 7 (112 + (24 + k))
    rw [xb _ _ (by omega), yb _ (by omega)]
    exact n3 k (by omega)
theorem stR_scn {v1 v2 v3 v4 v5 v6 v7 v8 : Nat} (S : sgR sc sm q G) (hlt : G 2 < 12) (hv : (1 ≤ v1 ∧ v1 ≤ 20) ∧ v2 < 2 ^ G 0 ∧ v3 ≤ 9 ∧ (v4 ≤ G 2 ∧ v5 ≤ G 2 ∧ v6 ≤ G 2 ∧ v7 ≤ G 2) ∧ v8 ≤ 6)
    (g1 : G' 2 = G 2 + 1) (g2 : G' (25 + G 2) = v1 ∧ G' (37 + G 2) = v2 ∧ G' (49 + G 2) = v3 ∧ G' (61 + G 2) = v4 ∧ G' (73 + G 2) = v5 ∧ G' (85 + G 2) = v6 ∧ G' (97 + G 2) = v7 ∧ G' (109 + G 2) = v8) (hG : ∀ k, (k ≠ 2 ∧ k ≠ 25 + G 2 ∧ k ≠ 37 + G 2 ∧ k ≠ 49 + G 2 ∧ k ≠ 61 + G 2 ∧ k ≠ 73 + G 2 ∧ k ≠ 85 + G 2 ∧ k ≠ 97 + G 2 ∧ k ≠ 109 + G 2) → G' k = G k)
    (x1 : gI s 7 q 2 = nI (G 2 + 1)) (xi : ∀ k, k ≠ 2 → gI s 7 q k = gI sc 7 q k) (xa : ∀ k m, k < 20 ∧ ¬ ((m = G 2 ∧ (k = 8 ∨ k = 9 ∨ k = 10 ∨ k = 12)) ∨ (k = 11 ∧ G 2 * 4 ≤ m ∧ m < G 2 * 4 + 4)) → gA s 7 q k m = gA sc 7 q k m) (xb : ∀ k m, ¬ (m = G 2 ∧ k = 3) → gB s 7 q k m = gB sc 7 q k m)
    (x5 : gA s 7 q 8 (G 2) = nI v1 ∧ gA s 7 q 9 (G 2) = nI v2 ∧ gA s 7 q 10 (G 2) = xI v3 ∧ gA s 7 q 11 (G 2 * 4) = xI v4 ∧ gA s 7 q 11 (G 2 * 4 + 1) = xI v5 ∧ gA s 7 q 11 (G 2 * 4 + 2) = xI v6 ∧ gA s 7 q 11 (G 2 * 4 + 3) = xI v7 ∧ gA s 7 q 12 (G 2) = xI v8)
    (y1 : gA t 12 0 5 1722 = nI (G 2 + 1)) (ya : ∀ k, (k ≠ 2 ∧ k ≠ 25 + G 2 ∧ k ≠ 37 + G 2 ∧ k ≠ 49 + G 2 ∧ k ≠ 61 + G 2 ∧ k ≠ 73 + G 2 ∧ k ≠ 85 + G 2 ∧ k ≠ 97 + G 2 ∧ k ≠ 109 + G 2) → gA t 12 0 5 (1720 + k) = gA sm 12 0 5 (1720 + k)) (yb : ∀ m, m ≠ 124 + G 2 → gB t 12 0 7 m = gB sm 12 0 7 m)
    (y5 : gA t 12 0 5 (1720 + (25 + G 2)) = nI v1 ∧ gA t 12 0 5 (1720 + (37 + G 2)) = nI v2 ∧ gA t 12 0 5 (1720 + (49 + G 2)) = xI v3 ∧ gA t 12 0 5 (1720 + (61 + G 2)) = xI v4 ∧ gA t 12 0 5 (1720 + (73 + G 2)) = xI v5 ∧ gA t 12 0 5 (1720 + (85 + G 2)) = xI v6 ∧ gA t 12 0 5 (1720 + (97 + G 2)) = xI v7 ∧ gA t 12 0 5 (1720 + (109 + G 2)) = xI v8) (hn : gB s 7 q 3 (G 2) = gB t 12 0 7 (124 + G 2)) : sgR s t q G' := by
  obtain ⟨⟨⟨w0, w1, w2, w3⟩, w4, w5, w6, w7, w8⟩, ⟨⟨c0, c1, c2, c3, c4, c5, c6⟩, c7, c8, c9, c10, c11, c12⟩, ⟨⟨t0, t1, t2, t3⟩, t4, t5, t6⟩, ⟨n0, n1, n2, n3⟩, z4, z5, z6, z7, z8⟩ := S
  have e0 := hG 0 (by omega)
  have e1 := hG 1 (by omega)
  have e3 := hG 3 (by omega)
  have e4 := hG 4 (by omega)
  have e5 := hG 5 (by omega)
  have e6 := hG 6 (by omega)
  have e17 := hG 217 (by omega)
  have e18 := hG 218 (by omega)
  obtain ⟨h1, h2, h3, h4, h5, h6, h7, h8⟩ := g2
  refine ⟨⟨⟨by omega, by omega, by omega, by omega⟩, by omega, fun a ha => ?_, fun s hs => ?_, fun k hk => ?_, fun i hi => by omega⟩, ⟨⟨?_, ?_, ?_, ?_, ?_, ?_, ?_⟩, fun a ha => ?_, fun s hs => ?_, fun k hk => ?_, fun i hi => by omega, ?_, fun j hj => by omega⟩, ⟨⟨?_, ?_, ?_, ?_⟩, fun a ha => ?_, fun s hs => ?_, fun k hk => ?_⟩, ⟨fun k hk => ?_, fun k hk => ?_, fun k hk => ?_, fun k hk => ?_⟩, by omega, by omega, by omega, by omega, by omega⟩
  · rw [hG (7 + a) (by omega), hG (13 + a) (by omega), hG (19 + a) (by omega)]; exact w5 a (by omega)
  · by_cases h : s = G 2
    · rw [h, h1, h2, h3, h4, h5, h6, h7, h8, e0]; exact hv
    · rw [hG (25 + s) (by omega), hG (37 + s) (by omega), hG (49 + s) (by omega), hG (61 + s) (by omega), hG (73 + s) (by omega), hG (85 + s) (by omega), hG (97 + s) (by omega), hG (109 + s) (by omega), e0]
      exact w6 s (by omega)
  · rw [hG (121 + k) (by omega), hG (125 + k) (by omega), hG (129 + k) (by omega), hG (133 + k) (by omega)]; exact w7 k (by omega)
  · rw [e0]; exact (ya 0 (by omega)).trans c0
  · rw [e1]; exact (ya 1 (by omega)).trans c1
  · rw [g1]; exact y1
  · rw [e3]; exact (ya 3 (by omega)).trans c3
  · rw [e4]; exact (ya 4 (by omega)).trans c4
  · rw [e5]; exact (ya 5 (by omega)).trans c5
  · rw [e6]; exact (ya 6 (by omega)).trans c6
  · have h := c7 a (by omega)
    rw [hG (7 + a) (by omega), hG (13 + a) (by omega), hG (19 + a) (by omega)]
    exact ⟨(ya _ (by omega)).trans h.1, (ya _ (by omega)).trans h.2.1, (ya _ (by omega)).trans h.2.2⟩
  · by_cases h : s = G 2
    · rw [h, h1, h2, h3, h4, h5, h6, h7, h8]; exact y5
    · have h := c8 s (by omega)
      rw [hG (25 + s) (by omega), hG (37 + s) (by omega), hG (49 + s) (by omega), hG (61 + s) (by omega), hG (73 + s) (by omega), hG (85 + s) (by omega), hG (97 + s) (by omega), hG (109 + s) (by omega)]
      exact ⟨(ya _ (by omega)).trans h.1, (ya _ (by omega)).trans h.2.1, (ya _ (by omega)).trans h.2.2.1, (ya _ (by omega)).trans h.2.2.2.1, (ya _ (by omega)).trans h.2.2.2.2.1, (ya _ (by omega)).trans h.2.2.2.2.2.1, (ya _ (by omega)).trans h.2.2.2.2.2.2.1, (ya _ (by omega)).trans h.2.2.2.2.2.2.2⟩
  · have h := c9 k (by omega)
    rw [hG (121 + k) (by omega), hG (125 + k) (by omega), hG (129 + k) (by omega), hG (133 + k) (by omega)]
    exact ⟨(ya _ (by omega)).trans h.1, (ya _ (by omega)).trans h.2.1, (ya _ (by omega)).trans h.2.2.1, (ya _ (by omega)).trans h.2.2.2⟩
  · rw [e17, e18]
    exact ⟨(ya 217 (by omega)).trans c11.1, (ya 218 (by omega)).trans c11.2.1, c11.2.2⟩
  · rw [e0, xi 0 (by omega)]; exact t0
  · rw [e1, xi 1 (by omega)]; exact t1
  · rw [g1]; exact x1
  · rw [e3, xi 3 (by omega)]; exact t3
  · rw [hG (7 + a) (by omega), hG (13 + a) (by omega), hG (19 + a) (by omega), xa _ _ (by omega), xa _ _ (by omega), xa _ _ (by omega)]; exact t4 a (by omega)
  · by_cases h : s = G 2
    · rw [h, h1, h2, h3, h4, h5, h6, h7, h8]; exact x5
    · rw [hG (25 + s) (by omega), hG (37 + s) (by omega), hG (49 + s) (by omega), hG (61 + s) (by omega), hG (73 + s) (by omega), hG (85 + s) (by omega), hG (97 + s) (by omega), hG (109 + s) (by omega)]
      rw [xa 8 _ (by omega), xa 9 _ (by omega), xa 10 _ (by omega), xa 11 _ (by omega), xa 11 _ (by omega), xa 11 _ (by omega), xa 11 _ (by omega), xa 12 _ (by omega)]
      exact t5 s (by omega)
  · rw [hG (121 + k) (by omega), hG (125 + k) (by omega), hG (129 + k) (by omega), hG (133 + k) (by omega)]
    simp (disch := omega) only [xa]
    exact t6 k (by omega)
  · show gB s 7 q 1 k = gB t 12 0 7 (112 + k)
    rw [xb _ _ (by omega), yb _ (by omega)]
    exact n0 k (by omega)
  · show gB s 7 q 2 k = gB t 12 0 7 (112 + (6 + k))
    rw [xb _ _ (by omega), yb _ (by omega)]
    exact n1 k (by omega)
  · show gB s 7 q 3 k = gB t 12 0 7 (112 + (12 + k))
    by_cases h : k = G 2
    · rw [h, hn, ← Nat.add_assoc]
    · rw [xb _ _ (by omega), yb _ (by omega)]
      exact n2 k (by omega)
  · show gB s 7 q 4 k = gB t 12 0 7 (112 + (24 + k))
    rw [xb _ _ (by omega), yb _ (by omega)]
    exact n3 k (by omega)
theorem stR_knd {v1 v2 v3 v4 : Nat} (S : sgR sc sm q G) (hlt : G 3 < 4) (hv : (1 ≤ v1 ∧ v1 ≤ 30) ∧ v2 + v3 + v4 ≤ 16)
    (g1 : G' 3 = G 3 + 1) (g2 : G' (121 + G 3) = v1 ∧ G' (125 + G 3) = v2 ∧ G' (129 + G 3) = v3 ∧ G' (133 + G 3) = v4) (hG : ∀ k, (k ≠ 3 ∧ k ≠ 121 + G 3 ∧ k ≠ 125 + G 3 ∧ k ≠ 129 + G 3 ∧ k ≠ 133 + G 3) → G' k = G k)
    (x1 : gI s 7 q 3 = nI (G 3 + 1)) (xi : ∀ k, k ≠ 3 → gI s 7 q k = gI sc 7 q k) (xa : ∀ k m, k < 20 ∧ ¬ ((m = G 3 ∧ k = 13) ∨ (k = 14 ∧ G 3 * 4 ≤ m ∧ m < G 3 * 4 + 4)) → gA s 7 q k m = gA sc 7 q k m) (xb : ∀ k m, ¬ (m = G 3 ∧ k = 4) → gB s 7 q k m = gB sc 7 q k m)
    (x5 : gA s 7 q 13 (G 3) = nI v1 ∧ gA s 7 q 14 (G 3 * 4) = nI (16 - v2 - v3 - v4) ∧ gA s 7 q 14 (G 3 * 4 + 1) = nI v2 ∧ gA s 7 q 14 (G 3 * 4 + 2) = nI v3 ∧ gA s 7 q 14 (G 3 * 4 + 3) = nI v4)
    (y1 : gA t 12 0 5 1723 = nI (G 3 + 1)) (ya : ∀ k, (k ≠ 3 ∧ k ≠ 121 + G 3 ∧ k ≠ 125 + G 3 ∧ k ≠ 129 + G 3 ∧ k ≠ 133 + G 3) → gA t 12 0 5 (1720 + k) = gA sm 12 0 5 (1720 + k)) (yb : ∀ m, m ≠ 136 + G 3 → gB t 12 0 7 m = gB sm 12 0 7 m)
    (y5 : gA t 12 0 5 (1720 + (121 + G 3)) = nI v1 ∧ gA t 12 0 5 (1720 + (125 + G 3)) = nI v2 ∧ gA t 12 0 5 (1720 + (129 + G 3)) = nI v3 ∧ gA t 12 0 5 (1720 + (133 + G 3)) = nI v4) (hn : gB s 7 q 4 (G 3) = gB t 12 0 7 (136 + G 3)) : sgR s t q G' := by
  obtain ⟨⟨⟨w0, w1, w2, w3⟩, w4, w5, w6, w7, w8⟩, ⟨⟨c0, c1, c2, c3, c4, c5, c6⟩, c7, c8, c9, c10, c11, c12⟩, ⟨⟨t0, t1, t2, t3⟩, t4, t5, t6⟩, ⟨n0, n1, n2, n3⟩, z4, z5, z6, z7, z8⟩ := S
  have e0 := hG 0 (by omega)
  have e1 := hG 1 (by omega)
  have e2 := hG 2 (by omega)
  have e4 := hG 4 (by omega)
  have e5 := hG 5 (by omega)
  have e6 := hG 6 (by omega)
  have e17 := hG 217 (by omega)
  have e18 := hG 218 (by omega)
  obtain ⟨h1, h2, h3, h4⟩ := g2
  refine ⟨⟨⟨by omega, by omega, by omega, by omega⟩, by omega, fun a ha => ?_, fun s hs => ?_, fun k hk => ?_, fun i hi => by omega⟩, ⟨⟨?_, ?_, ?_, ?_, ?_, ?_, ?_⟩, fun a ha => ?_, fun s hs => ?_, fun k hk => ?_, fun i hi => by omega, ?_, fun j hj => by omega⟩, ⟨⟨?_, ?_, ?_, ?_⟩, fun a ha => ?_, fun s hs => ?_, fun k hk => ?_⟩, ⟨fun k hk => ?_, fun k hk => ?_, fun k hk => ?_, fun k hk => ?_⟩, by omega, by omega, by omega, by omega, by omega⟩
  · rw [hG (7 + a) (by omega), hG (13 + a) (by omega), hG (19 + a) (by omega)]; exact w5 a (by omega)
  · rw [hG (25 + s) (by omega), hG (37 + s) (by omega), hG (49 + s) (by omega), hG (61 + s) (by omega), hG (73 + s) (by omega), hG (85 + s) (by omega), hG (97 + s) (by omega), hG (109 + s) (by omega), e0]
    exact w6 s (by omega)
  · by_cases h : k = G 3
    · rw [h, h1, h2, h3, h4]; exact hv
    · rw [hG (121 + k) (by omega), hG (125 + k) (by omega), hG (129 + k) (by omega), hG (133 + k) (by omega)]; exact w7 k (by omega)
  · rw [e0]; exact (ya 0 (by omega)).trans c0
  · rw [e1]; exact (ya 1 (by omega)).trans c1
  · rw [e2]; exact (ya 2 (by omega)).trans c2
  · rw [g1]; exact y1
  · rw [e4]; exact (ya 4 (by omega)).trans c4
  · rw [e5]; exact (ya 5 (by omega)).trans c5
  · rw [e6]; exact (ya 6 (by omega)).trans c6
  · have h := c7 a (by omega)
    rw [hG (7 + a) (by omega), hG (13 + a) (by omega), hG (19 + a) (by omega)]
    exact ⟨(ya _ (by omega)).trans h.1, (ya _ (by omega)).trans h.2.1, (ya _ (by omega)).trans h.2.2⟩
  · have h := c8 s (by omega)
    rw [hG (25 + s) (by omega), hG (37 + s) (by omega), hG (49 + s) (by omega), hG (61 + s) (by omega), hG (73 + s) (by omega), hG (85 + s) (by omega), hG (97 + s) (by omega), hG (109 + s) (by omega)]
    exact ⟨(ya _ (by omega)).trans h.1, (ya _ (by omega)).trans h.2.1, (ya _ (by omega)).trans h.2.2.1, (ya _ (by omega)).trans h.2.2.2.1, (ya _ (by omega)).trans h.2.2.2.2.1, (ya _ (by omega)).trans h.2.2.2.2.2.1, (ya _ (by omega)).trans h.2.2.2.2.2.2.1, (ya _ (by omega)).trans h.2.2.2.2.2.2.2⟩
  · by_cases h : k = G 3
    · rw [h, h1, h2, h3, h4]; exact y5
    · have h := c9 k (by omega)
      rw [hG (121 + k) (by omega), hG (125 + k) (by omega), hG (129 + k) (by omega), hG (133 + k) (by omega)]
      exact ⟨(ya _ (by omega)).trans h.1, (ya _ (by omega)).trans h.2.1, (ya _ (by omega)).trans h.2.2.1, (ya _ (by omega)).trans h.2.2.2⟩
  · rw [e17, e18]
    exact ⟨(ya 217 (by omega)).trans c11.1, (ya 218 (by omega)).trans c11.2.1, c11.2.2⟩
  · rw [e0, xi 0 (by omega)]; exact t0
  · rw [e1, xi 1 (by omega)]; exact t1
  · rw [e2, xi 2 (by omega)]; exact t2
  · rw [g1]; exact x1
  · rw [hG (7 + a) (by omega), hG (13 + a) (by omega), hG (19 + a) (by omega), xa _ _ (by omega), xa _ _ (by omega), xa _ _ (by omega)]; exact t4 a (by omega)
  · rw [hG (25 + s) (by omega), hG (37 + s) (by omega), hG (49 + s) (by omega), hG (61 + s) (by omega), hG (73 + s) (by omega), hG (85 + s) (by omega), hG (97 + s) (by omega), hG (109 + s) (by omega)]
    simp (disch := omega) only [xa]
    exact t5 s (by omega)
  · by_cases h : k = G 3
    · rw [h, h1, h2, h3, h4]; exact x5
    · rw [hG (121 + k) (by omega), hG (125 + k) (by omega), hG (129 + k) (by omega), hG (133 + k) (by omega)]
      rw [xa 13 _ (by omega), xa 14 _ (by omega), xa 14 _ (by omega), xa 14 _ (by omega), xa 14 _ (by omega)]
      exact t6 k (by omega)
  · show gB s 7 q 1 k = gB t 12 0 7 (112 + k)
    rw [xb _ _ (by omega), yb _ (by omega)]
    exact n0 k (by omega)
  · show gB s 7 q 2 k = gB t 12 0 7 (112 + (6 + k))
    rw [xb _ _ (by omega), yb _ (by omega)]
    exact n1 k (by omega)
  · show gB s 7 q 3 k = gB t 12 0 7 (112 + (12 + k))
    rw [xb _ _ (by omega), yb _ (by omega)]
    exact n2 k (by omega)
  · show gB s 7 q 4 k = gB t 12 0 7 (112 + (24 + k))
    by_cases h : k = G 3
    · rw [h, hn, ← Nat.add_assoc]
    · rw [xb _ _ (by omega), yb _ (by omega)]
      exact n3 k (by omega)
end
