/-! ===== constants, layouts, calls by the number of arguments ===== -/
theorem bpm2 : (Int8.ofInt (-2)).toInt32 = (-2 : Int32) := by decide +kernel
theorem bp6 : (Int8.ofInt (6)).toInt32 = nI 6 := by decide +kernel
theorem bp7 : (Int8.ofInt (7)).toInt32 = nI 7 := by decide +kernel
theorem bp8 : (Int8.ofInt (8)).toInt32 = nI 8 := by decide +kernel
theorem bp9 : (Int8.ofInt (9)).toInt32 = nI 9 := by decide +kernel
theorem bp10 : (Int8.ofInt (10)).toInt32 = nI 10 := by decide +kernel
theorem bp11 : (Int8.ofInt (11)).toInt32 = nI 11 := by decide +kernel
theorem bp12 : (Int8.ofInt (12)).toInt32 = nI 12 := by decide +kernel
theorem bp13 : (Int8.ofInt (13)).toInt32 = nI 13 := by decide +kernel
theorem bp14 : (Int8.ofInt (14)).toInt32 = nI 14 := by decide +kernel
theorem bp15 : (Int8.ofInt (15)).toInt32 = nI 15 := by decide +kernel
theorem bp16 : (Int8.ofInt (16)).toInt32 = nI 16 := by decide +kernel
theorem bp17 : (Int8.ofInt (17)).toInt32 = nI 17 := by decide +kernel
theorem bp18 : (Int8.ofInt (18)).toInt32 = nI 18 := by decide +kernel
theorem bp19 : (Int8.ofInt (19)).toInt32 = nI 19 := by decide +kernel
theorem bp20 : (Int8.ofInt (20)).toInt32 = nI 20 := by decide +kernel
theorem bp21 : (Int8.ofInt (21)).toInt32 = nI 21 := by decide +kernel
theorem bp23 : (Int8.ofInt (23)).toInt32 = nI 23 := by decide +kernel
theorem bp24 : (Int8.ofInt (24)).toInt32 = nI 24 := by decide +kernel
theorem bp25 : (Int8.ofInt (25)).toInt32 = nI 25 := by decide +kernel
theorem bp27 : (Int8.ofInt (27)).toInt32 = nI 27 := by decide +kernel
theorem bp28 : (Int8.ofInt (28)).toInt32 = nI 28 := by decide +kernel
theorem bp29 : (Int8.ofInt (29)).toInt32 = nI 29 := by decide +kernel
theorem bp30 : (Int8.ofInt (30)).toInt32 = nI 30 := by decide +kernel
theorem bp31 : (Int8.ofInt (31)).toInt32 = nI 31 := by decide +kernel
theorem bp32 : (Int8.ofInt (32)).toInt32 = nI 32 := by decide +kernel
theorem bp33 : (Int8.ofInt (33)).toInt32 = nI 33 := by decide +kernel
theorem bp34 : (Int8.ofInt (34)).toInt32 = nI 34 := by decide +kernel
theorem bp35 : (Int8.ofInt (35)).toInt32 = nI 35 := by decide +kernel
theorem bp36 : (Int8.ofInt (36)).toInt32 = nI 36 := by decide +kernel
theorem bp37 : (Int8.ofInt (37)).toInt32 = nI 37 := by decide +kernel
theorem bp38 : (Int8.ofInt (38)).toInt32 = nI 38 := by decide +kernel
theorem bp39 : (Int8.ofInt (39)).toInt32 = nI 39 := by decide +kernel
theorem bp40 : (Int8.ofInt (40)).toInt32 = nI 40 := by decide +kernel
theorem bp41 : (Int8.ofInt (41)).toInt32 = nI 41 := by decide +kernel
theorem bp42 : (Int8.ofInt (42)).toInt32 = nI 42 := by decide +kernel
theorem bp43 : (Int8.ofInt (43)).toInt32 = nI 43 := by decide +kernel
theorem bp44 : (Int8.ofInt (44)).toInt32 = nI 44 := by decide +kernel
theorem bp45 : (Int8.ofInt (45)).toInt32 = nI 45 := by decide +kernel
theorem bp47 : (Int8.ofInt (47)).toInt32 = nI 47 := by decide +kernel
theorem bp48 : (Int8.ofInt (48)).toInt32 = nI 48 := by decide +kernel
theorem bp50 : (Int8.ofInt (50)).toInt32 = nI 50 := by decide +kernel
theorem bp57 : (Int8.ofInt (57)).toInt32 = nI 57 := by decide +kernel
theorem bp59 : (Int8.ofInt (59)).toInt32 = nI 59 := by decide +kernel
theorem bp60 : (Int8.ofInt (60)).toInt32 = nI 60 := by decide +kernel
theorem bp61 : (Int8.ofInt (61)).toInt32 = nI 61 := by decide +kernel
theorem bp62 : (Int8.ofInt (62)).toInt32 = nI 62 := by decide +kernel
theorem bp63 : (Int8.ofInt (63)).toInt32 = nI 63 := by decide +kernel
theorem bp64 : (Int8.ofInt (64)).toInt32 = nI 64 := by decide +kernel
theorem bp72 : (Int8.ofInt (72)).toInt32 = nI 72 := by decide +kernel
theorem bp97 : (Int8.ofInt (97)).toInt32 = nI 97 := by decide +kernel
theorem bp99 : (Int8.ofInt (99)).toInt32 = nI 99 := by decide +kernel
theorem bp100 : (Int8.ofInt (100)).toInt32 = nI 100 := by decide +kernel
theorem bp122 : (Int8.ofInt (122)).toInt32 = nI 122 := by decide +kernel
theorem icm8 : Int32.ofInt (-8) = (-8 : Int32) := by decide +kernel
theorem icm5 : Int32.ofInt (-5) = (-5 : Int32) := by decide +kernel
theorem icm1 : Int32.ofInt (-1) = (-1 : Int32) := by decide +kernel
theorem ic0 : Int32.ofInt (0) = nI 0 := by decide +kernel
theorem ic1 : Int32.ofInt (1) = nI 1 := by decide +kernel
theorem ic2 : Int32.ofInt (2) = nI 2 := by decide +kernel
theorem ic3 : Int32.ofInt (3) = nI 3 := by decide +kernel
theorem ic4 : Int32.ofInt (4) = nI 4 := by decide +kernel
theorem ic5 : Int32.ofInt (5) = nI 5 := by decide +kernel
theorem ic6 : Int32.ofInt (6) = nI 6 := by decide +kernel
theorem sp128 : (Int16.ofInt (128)).toInt32 = nI 128 := by decide +kernel
theorem sp138 : (Int16.ofInt (138)).toInt32 = nI 138 := by decide +kernel
theorem sp199 : (Int16.ofInt (199)).toInt32 = nI 199 := by decide +kernel
theorem sp200 : (Int16.ofInt (200)).toInt32 = nI 200 := by decide +kernel
theorem sp255 : (Int16.ofInt (255)).toInt32 = nI 255 := by decide +kernel
theorem sp256 : (Int16.ofInt (256)).toInt32 = nI 256 := by decide +kernel
theorem sp257 : (Int16.ofInt (257)).toInt32 = nI 257 := by decide +kernel
theorem sp258 : (Int16.ofInt (258)).toInt32 = nI 258 := by decide +kernel
theorem sp260 : (Int16.ofInt (260)).toInt32 = nI 260 := by decide +kernel
theorem sp261 : (Int16.ofInt (261)).toInt32 = nI 261 := by decide +kernel
theorem sp262 : (Int16.ofInt (262)).toInt32 = nI 262 := by decide +kernel
theorem sp680 : (Int16.ofInt (680)).toInt32 = nI 680 := by decide +kernel
theorem sp700 : (Int16.ofInt (700)).toInt32 = nI 700 := by decide +kernel
theorem sp701 : (Int16.ofInt (701)).toInt32 = nI 701 := by decide +kernel
theorem sp729 : (Int16.ofInt (729)).toInt32 = nI 729 := by decide +kernel
theorem sp730 : (Int16.ofInt (730)).toInt32 = nI 730 := by decide +kernel
theorem sp999 : (Int16.ofInt (999)).toInt32 = nI 999 := by decide +kernel
theorem sp4095 : (Int16.ofInt (4095)).toInt32 = nI 4095 := by decide +kernel
theorem sp4096 : (Int16.ofInt (4096)).toInt32 = nI 4096 := by decide +kernel
theorem sp4374 : (Int16.ofInt (4374)).toInt32 = nI 4374 := by decide +kernel
theorem sp5832 : (Int16.ofInt (5832)).toInt32 = nI 5832 := by decide +kernel
theorem sp9800 : (Int16.ofInt (9800)).toInt32 = nI 9800 := by decide +kernel
theorem sp9999 : (Int16.ofInt (9999)).toInt32 = nI 9999 := by decide +kernel
theorem sp12345 : (Int16.ofInt (12345)).toInt32 = nI 12345 := by decide +kernel
theorem sp16767 : (Int16.ofInt (16767)).toInt32 = nI 16767 := by decide +kernel
theorem lc0 : Int64.ofNat ((0 : Fin 2) : Nat) = lN 0 := rfl
theorem lc1 : Int64.ofNat ((1 : Fin 2) : Nat) = lN 1 := rfl
theorem swOut (lo hi : Nat) {x : Nat} (h : ¬ (lo ≤ x ∧ x ≤ hi)) (hx : x < 2147483648) : (nI x).toInt < (lo : Int) ∨ (hi : Int) < (nI x).toInt := by rw [nI_toInt hx]; omega
def gNm (S : xS) (a : Nat) (c : Nat) : Prop := fS S a = (6, 5) ∧ fS S (a + 1) = (1, c) ∧ fR S a 0 = some (a + 1)
theorem Nm.s0 {S : xS} {a : Nat} {c : Nat} (h : gNm S a c) : fS S a = (6, 5) := h.1
theorem Nm.s1 {S : xS} {a : Nat} {c : Nat} (h : gNm S a c) : fS S (a + 1) = (1, c) := h.2.1
theorem Nm.r0 {S : xS} {a : Nat} {c : Nat} (h : gNm S a c) : fR S a 0 = some (a + 1) := h.2.2
def gKn (S : xS) (a : Nat) : Prop := fS S a = (6, 2) ∧ fS S (a + 1) = (1, 64) ∧ fS S (a + 2) = (1, 64) ∧ fS S (a + 3) = (1, 64) ∧ fR S a 0 = some (a + 1) ∧ fR S a 1 = some (a + 2) ∧ fR S a 2 = some (a + 3)
theorem Kn.s0 {S : xS} {a : Nat} (h : gKn S a) : fS S a = (6, 2) := h.1
theorem Kn.s1 {S : xS} {a : Nat} (h : gKn S a) : fS S (a + 1) = (1, 64) := h.2.1
theorem Kn.s2 {S : xS} {a : Nat} (h : gKn S a) : fS S (a + 2) = (1, 64) := h.2.2.1
theorem Kn.s3 {S : xS} {a : Nat} (h : gKn S a) : fS S (a + 3) = (1, 64) := h.2.2.2.1
theorem Kn.r0 {S : xS} {a : Nat} (h : gKn S a) : fR S a 0 = some (a + 1) := h.2.2.2.2.1
theorem Kn.r1 {S : xS} {a : Nat} (h : gKn S a) : fR S a 1 = some (a + 2) := h.2.2.2.2.2.1
theorem Kn.r2 {S : xS} {a : Nat} (h : gKn S a) : fR S a 2 = some (a + 3) := h.2.2.2.2.2.2
def gSt (S : xS) (a : Nat) : Prop := fS S a = (6, 7) ∧ fS S (a + 1) = (1, 729) ∧ fS S (a + 2) = (1, 6) ∧ fS S (a + 3) = (1, 6) ∧ fS S (a + 4) = (1, 6) ∧ fR S a 0 = some (a + 1) ∧ fR S a 1 = some (a + 2) ∧ fR S a 2 = some (a + 3) ∧ fR S a 3 = some (a + 4)
theorem St.s0 {S : xS} {a : Nat} (h : gSt S a) : fS S a = (6, 7) := h.1
theorem St.s1 {S : xS} {a : Nat} (h : gSt S a) : fS S (a + 1) = (1, 729) := h.2.1
theorem St.s2 {S : xS} {a : Nat} (h : gSt S a) : fS S (a + 2) = (1, 6) := h.2.2.1
theorem St.s3 {S : xS} {a : Nat} (h : gSt S a) : fS S (a + 3) = (1, 6) := h.2.2.2.1
theorem St.s4 {S : xS} {a : Nat} (h : gSt S a) : fS S (a + 4) = (1, 6) := h.2.2.2.2.1
theorem St.r0 {S : xS} {a : Nat} (h : gSt S a) : fR S a 0 = some (a + 1) := h.2.2.2.2.2.1
theorem St.r1 {S : xS} {a : Nat} (h : gSt S a) : fR S a 1 = some (a + 2) := h.2.2.2.2.2.2.1
theorem St.r2 {S : xS} {a : Nat} (h : gSt S a) : fR S a 2 = some (a + 3) := h.2.2.2.2.2.2.2.1
theorem St.r3 {S : xS} {a : Nat} (h : gSt S a) : fR S a 3 = some (a + 4) := h.2.2.2.2.2.2.2.2
def gTx (S : xS) (a : Nat) : Prop := fS S a = (6, 8) ∧ fS S (a + 11) = (1, 3) ∧ fS S (a + 12) = (1, 6) ∧ fS S (a + 13) = (1, 6) ∧ fS S (a + 14) = (1, 8) ∧ fS S (a + 15) = (4, 8) ∧ fS S (a + 16) = (1, 12) ∧ fS S (a + 17) = (1, 12) ∧ fS S (a + 18) = (1, 12) ∧ fS S (a + 19) = (1, 2) ∧ fS S (a + 20) = (4, 2) ∧ fR S a 0 = some (a + 1) ∧ fR S a 1 = some (a + 3) ∧ fR S a 2 = some (a + 5) ∧ fR S a 3 = some (a + 7) ∧ fR S a 4 = some (a + 11) ∧ fR S a 5 = some (a + 12) ∧ fR S a 6 = some (a + 13) ∧ fR S a 7 = some (a + 14) ∧ fR S a 8 = some (a + 15) ∧ fR S a 10 = some (a + 16) ∧ fR S a 11 = some (a + 17) ∧ fR S a 13 = some (a + 18) ∧ fR S a 14 = some (a + 19) ∧ fR S a 15 = some (a + 20) ∧ gNm S (a + 1) 3 ∧ gNm S (a + 3) 6 ∧ gNm S (a + 5) 8 ∧ gKn S (a + 7)
theorem Tx.s0 {S : xS} {a : Nat} (h : gTx S a) : fS S a = (6, 8) := h.1
theorem Tx.s11 {S : xS} {a : Nat} (h : gTx S a) : fS S (a + 11) = (1, 3) := h.2.1
theorem Tx.s12 {S : xS} {a : Nat} (h : gTx S a) : fS S (a + 12) = (1, 6) := h.2.2.1
theorem Tx.s13 {S : xS} {a : Nat} (h : gTx S a) : fS S (a + 13) = (1, 6) := h.2.2.2.1
theorem Tx.s14 {S : xS} {a : Nat} (h : gTx S a) : fS S (a + 14) = (1, 8) := h.2.2.2.2.1
theorem Tx.s15 {S : xS} {a : Nat} (h : gTx S a) : fS S (a + 15) = (4, 8) := h.2.2.2.2.2.1
theorem Tx.s16 {S : xS} {a : Nat} (h : gTx S a) : fS S (a + 16) = (1, 12) := h.2.2.2.2.2.2.1
theorem Tx.s17 {S : xS} {a : Nat} (h : gTx S a) : fS S (a + 17) = (1, 12) := h.2.2.2.2.2.2.2.1
theorem Tx.s18 {S : xS} {a : Nat} (h : gTx S a) : fS S (a + 18) = (1, 12) := h.2.2.2.2.2.2.2.2.1
theorem Tx.s19 {S : xS} {a : Nat} (h : gTx S a) : fS S (a + 19) = (1, 2) := h.2.2.2.2.2.2.2.2.2.1
theorem Tx.s20 {S : xS} {a : Nat} (h : gTx S a) : fS S (a + 20) = (4, 2) := h.2.2.2.2.2.2.2.2.2.2.1
theorem Tx.r0 {S : xS} {a : Nat} (h : gTx S a) : fR S a 0 = some (a + 1) := h.2.2.2.2.2.2.2.2.2.2.2.1
theorem Tx.r1 {S : xS} {a : Nat} (h : gTx S a) : fR S a 1 = some (a + 3) := h.2.2.2.2.2.2.2.2.2.2.2.2.1
theorem Tx.r2 {S : xS} {a : Nat} (h : gTx S a) : fR S a 2 = some (a + 5) := h.2.2.2.2.2.2.2.2.2.2.2.2.2.1
theorem Tx.r3 {S : xS} {a : Nat} (h : gTx S a) : fR S a 3 = some (a + 7) := h.2.2.2.2.2.2.2.2.2.2.2.2.2.2.1
theorem Tx.r4 {S : xS} {a : Nat} (h : gTx S a) : fR S a 4 = some (a + 11) := h.2.2.2.2.2.2.2.2.2.2.2.2.2.2.2.1
theorem Tx.r5 {S : xS} {a : Nat} (h : gTx S a) : fR S a 5 = some (a + 12) := h.2.2.2.2.2.2.2.2.2.2.2.2.2.2.2.2.1
theorem Tx.r6 {S : xS} {a : Nat} (h : gTx S a) : fR S a 6 = some (a + 13) := h.2.2.2.2.2.2.2.2.2.2.2.2.2.2.2.2.2.1
theorem Tx.r7 {S : xS} {a : Nat} (h : gTx S a) : fR S a 7 = some (a + 14) := h.2.2.2.2.2.2.2.2.2.2.2.2.2.2.2.2.2.2.1
theorem Tx.r8 {S : xS} {a : Nat} (h : gTx S a) : fR S a 8 = some (a + 15) := h.2.2.2.2.2.2.2.2.2.2.2.2.2.2.2.2.2.2.2.1
theorem Tx.r10 {S : xS} {a : Nat} (h : gTx S a) : fR S a 10 = some (a + 16) := h.2.2.2.2.2.2.2.2.2.2.2.2.2.2.2.2.2.2.2.2.1
theorem Tx.r11 {S : xS} {a : Nat} (h : gTx S a) : fR S a 11 = some (a + 17) := h.2.2.2.2.2.2.2.2.2.2.2.2.2.2.2.2.2.2.2.2.2.1
theorem Tx.r13 {S : xS} {a : Nat} (h : gTx S a) : fR S a 13 = some (a + 18) := h.2.2.2.2.2.2.2.2.2.2.2.2.2.2.2.2.2.2.2.2.2.2.1
theorem Tx.r14 {S : xS} {a : Nat} (h : gTx S a) : fR S a 14 = some (a + 19) := h.2.2.2.2.2.2.2.2.2.2.2.2.2.2.2.2.2.2.2.2.2.2.2.1
theorem Tx.r15 {S : xS} {a : Nat} (h : gTx S a) : fR S a 15 = some (a + 20) := h.2.2.2.2.2.2.2.2.2.2.2.2.2.2.2.2.2.2.2.2.2.2.2.2.1
theorem Tx.n1 {S : xS} {a : Nat} (h : gTx S a) : gNm S (a + 1) 3 := h.2.2.2.2.2.2.2.2.2.2.2.2.2.2.2.2.2.2.2.2.2.2.2.2.2.1
theorem Tx.n3 {S : xS} {a : Nat} (h : gTx S a) : gNm S (a + 3) 6 := h.2.2.2.2.2.2.2.2.2.2.2.2.2.2.2.2.2.2.2.2.2.2.2.2.2.2.1
theorem Tx.n5 {S : xS} {a : Nat} (h : gTx S a) : gNm S (a + 5) 8 := h.2.2.2.2.2.2.2.2.2.2.2.2.2.2.2.2.2.2.2.2.2.2.2.2.2.2.2.1
theorem Tx.n7 {S : xS} {a : Nat} (h : gTx S a) : gKn S (a + 7) := h.2.2.2.2.2.2.2.2.2.2.2.2.2.2.2.2.2.2.2.2.2.2.2.2.2.2.2.2
def fxT : List (Nat × Nat) := [(6, 10), (2, 700), (6, 9), (1, 28), (1, 701), (1, 701), (1, 701), (6, 6), (6, 1), (1, 72), (1, 72), (1, 64), (6, 2), (1, 64), (1, 64), (1, 64), (6, 4), (1, 4096), (1, 4096), (4, 729), (1, 729), (3, 256), (6, 3), (4, 64), (6, 8), (6, 5), (1, 3), (6, 5), (1, 6), (6, 5), (1, 8), (6, 2), (1, 64), (1, 64), (1, 64), (1, 3), (1, 6), (1, 6), (1, 8), (4, 8), (1, 12), (1, 12), (1, 12), (1, 2), (4, 2), (6, 8), (6, 5), (1, 3), (6, 5), (1, 6), (6, 5), (1, 8), (6, 2), (1, 64), (1, 64), (1, 64), (1, 3), (1, 6), (1, 6), (1, 8), (4, 8), (1, 12), (1, 12), (1, 12), (1, 2), (4, 2), (6, 0), (6, 7), (1, 729), (1, 6), (1, 6), (1, 6), (6, 7), (1, 729), (1, 6), (1, 6), (1, 6), (6, 7), (1, 729), (1, 6), (1, 6), (1, 6), (5, 20), (6, 11), (1, 700), (1, 18), (1, 6), (1, 6), (1, 12), (1, 12), (1, 12), (1, 16), (1, 16), (1, 16), (1, 24), (1, 24), (1, 24), (1, 4), (1, 4), (1, 128), (1, 128), (4, 7), (4, 64), (1, 4374), (1, 23), (1, 23), (1, 23), (1, 23), (1, 23), (1, 138), (1, 138), (3, 16767), (1, 4374), (3, 4374), (1, 729), (3, 729), (1, 729), (3, 5832), (3, 48114)]
def fxR : List (Nat × Nat × Nat) := [(0, 0, 1), (0, 2, 2), (0, 3, 7), (0, 4, 16), (0, 5, 22), (0, 8, 66), (0, 9, 67), (0, 10, 72), (0, 11, 77), (0, 13, 82), (2, 0, 3), (2, 1, 4), (2, 2, 5), (2, 3, 6), (7, 0, 2), (7, 1, 8), (8, 0, 2), (8, 1, 9), (8, 2, 10), (8, 4, 11), (12, 0, 13), (12, 1, 14), (12, 2, 15), (16, 0, 17), (16, 1, 18), (16, 3, 19), (16, 4, 20), (16, 6, 21), (22, 0, 23), (24, 0, 25), (24, 1, 27), (24, 2, 29), (24, 3, 31), (24, 4, 35), (24, 5, 36), (24, 6, 37), (24, 7, 38), (24, 8, 39), (24, 10, 40), (24, 11, 41), (24, 13, 42), (24, 14, 43), (24, 15, 44), (25, 0, 26), (27, 0, 28), (29, 0, 30), (31, 0, 32), (31, 1, 33), (31, 2, 34), (45, 0, 46), (45, 1, 48), (45, 2, 50), (45, 3, 52), (45, 4, 56), (45, 5, 57), (45, 6, 58), (45, 7, 59), (45, 8, 60), (45, 10, 61), (45, 11, 62), (45, 13, 63), (45, 14, 64), (45, 15, 65), (46, 0, 47), (48, 0, 49), (50, 0, 51), (52, 0, 53), (52, 1, 54), (52, 2, 55), (66, 0, 16), (66, 1, 22), (67, 0, 68), (67, 1, 69), (67, 2, 70), (67, 3, 71), (72, 0, 73), (72, 1, 74), (72, 2, 75), (72, 3, 76), (77, 0, 78), (77, 1, 79), (77, 2, 80), (77, 3, 81), (83, 1, 84), (83, 3, 85), (83, 4, 86), (83, 5, 87), (83, 6, 88), (83, 7, 89), (83, 8, 90), (83, 9, 91), (83, 10, 92), (83, 11, 93), (83, 12, 94), (83, 13, 95), (83, 14, 96), (83, 15, 97), (83, 16, 98), (83, 17, 99), (83, 18, 100), (83, 32, 101), (83, 33, 102), (83, 35, 103), (83, 38, 104), (83, 39, 105), (83, 40, 106), (83, 41, 107), (83, 42, 108), (83, 43, 109), (83, 44, 110), (83, 45, 111), (83, 49, 112), (83, 50, 113), (83, 51, 114), (83, 52, 115), (83, 53, 116), (83, 54, 117), (83, 55, 118)]
def gFx (S : xS) : Prop := 119 ≤ fZ S ∧ (∀ a, a < 119 → fS S a = fxT.getD a (0, 0)) ∧ ∀ q ∈ fxR, fR S q.1 q.2.1 = some q.2.2
theorem Fx.s0 {S : xS} (h : gFx S) : fS S 0 = (6, 10) := h.2.1 0 (by decide)
theorem Fx.s1 {S : xS} (h : gFx S) : fS S 1 = (2, 700) := h.2.1 1 (by decide)
theorem Fx.s2 {S : xS} (h : gFx S) : fS S 2 = (6, 9) := h.2.1 2 (by decide)
theorem Fx.s3 {S : xS} (h : gFx S) : fS S 3 = (1, 28) := h.2.1 3 (by decide)
theorem Fx.s4 {S : xS} (h : gFx S) : fS S 4 = (1, 701) := h.2.1 4 (by decide)
theorem Fx.s5 {S : xS} (h : gFx S) : fS S 5 = (1, 701) := h.2.1 5 (by decide)
theorem Fx.s6 {S : xS} (h : gFx S) : fS S 6 = (1, 701) := h.2.1 6 (by decide)
theorem Fx.s7 {S : xS} (h : gFx S) : fS S 7 = (6, 6) := h.2.1 7 (by decide)
theorem Fx.s8 {S : xS} (h : gFx S) : fS S 8 = (6, 1) := h.2.1 8 (by decide)
theorem Fx.s9 {S : xS} (h : gFx S) : fS S 9 = (1, 72) := h.2.1 9 (by decide)
theorem Fx.s10 {S : xS} (h : gFx S) : fS S 10 = (1, 72) := h.2.1 10 (by decide)
theorem Fx.s11 {S : xS} (h : gFx S) : fS S 11 = (1, 64) := h.2.1 11 (by decide)
theorem Fx.s12 {S : xS} (h : gFx S) : fS S 12 = (6, 2) := h.2.1 12 (by decide)
theorem Fx.s13 {S : xS} (h : gFx S) : fS S 13 = (1, 64) := h.2.1 13 (by decide)
theorem Fx.s14 {S : xS} (h : gFx S) : fS S 14 = (1, 64) := h.2.1 14 (by decide)
theorem Fx.s15 {S : xS} (h : gFx S) : fS S 15 = (1, 64) := h.2.1 15 (by decide)
theorem Fx.s16 {S : xS} (h : gFx S) : fS S 16 = (6, 4) := h.2.1 16 (by decide)
theorem Fx.s17 {S : xS} (h : gFx S) : fS S 17 = (1, 4096) := h.2.1 17 (by decide)
theorem Fx.s18 {S : xS} (h : gFx S) : fS S 18 = (1, 4096) := h.2.1 18 (by decide)
theorem Fx.s19 {S : xS} (h : gFx S) : fS S 19 = (4, 729) := h.2.1 19 (by decide)
theorem Fx.s20 {S : xS} (h : gFx S) : fS S 20 = (1, 729) := h.2.1 20 (by decide)
theorem Fx.s21 {S : xS} (h : gFx S) : fS S 21 = (3, 256) := h.2.1 21 (by decide)
theorem Fx.s22 {S : xS} (h : gFx S) : fS S 22 = (6, 3) := h.2.1 22 (by decide)
theorem Fx.s23 {S : xS} (h : gFx S) : fS S 23 = (4, 64) := h.2.1 23 (by decide)
theorem Fx.s24 {S : xS} (h : gFx S) : fS S 24 = (6, 8) := h.2.1 24 (by decide)
theorem Fx.s25 {S : xS} (h : gFx S) : fS S 25 = (6, 5) := h.2.1 25 (by decide)
theorem Fx.s26 {S : xS} (h : gFx S) : fS S 26 = (1, 3) := h.2.1 26 (by decide)
theorem Fx.s27 {S : xS} (h : gFx S) : fS S 27 = (6, 5) := h.2.1 27 (by decide)
theorem Fx.s28 {S : xS} (h : gFx S) : fS S 28 = (1, 6) := h.2.1 28 (by decide)
theorem Fx.s29 {S : xS} (h : gFx S) : fS S 29 = (6, 5) := h.2.1 29 (by decide)
theorem Fx.s30 {S : xS} (h : gFx S) : fS S 30 = (1, 8) := h.2.1 30 (by decide)
theorem Fx.s31 {S : xS} (h : gFx S) : fS S 31 = (6, 2) := h.2.1 31 (by decide)
theorem Fx.s32 {S : xS} (h : gFx S) : fS S 32 = (1, 64) := h.2.1 32 (by decide)
theorem Fx.s33 {S : xS} (h : gFx S) : fS S 33 = (1, 64) := h.2.1 33 (by decide)
theorem Fx.s34 {S : xS} (h : gFx S) : fS S 34 = (1, 64) := h.2.1 34 (by decide)
theorem Fx.s35 {S : xS} (h : gFx S) : fS S 35 = (1, 3) := h.2.1 35 (by decide)
theorem Fx.s36 {S : xS} (h : gFx S) : fS S 36 = (1, 6) := h.2.1 36 (by decide)
theorem Fx.s37 {S : xS} (h : gFx S) : fS S 37 = (1, 6) := h.2.1 37 (by decide)
theorem Fx.s38 {S : xS} (h : gFx S) : fS S 38 = (1, 8) := h.2.1 38 (by decide)
theorem Fx.s39 {S : xS} (h : gFx S) : fS S 39 = (4, 8) := h.2.1 39 (by decide)
theorem Fx.s40 {S : xS} (h : gFx S) : fS S 40 = (1, 12) := h.2.1 40 (by decide)
theorem Fx.s41 {S : xS} (h : gFx S) : fS S 41 = (1, 12) := h.2.1 41 (by decide)
theorem Fx.s42 {S : xS} (h : gFx S) : fS S 42 = (1, 12) := h.2.1 42 (by decide)
theorem Fx.s43 {S : xS} (h : gFx S) : fS S 43 = (1, 2) := h.2.1 43 (by decide)
theorem Fx.s44 {S : xS} (h : gFx S) : fS S 44 = (4, 2) := h.2.1 44 (by decide)
theorem Fx.s45 {S : xS} (h : gFx S) : fS S 45 = (6, 8) := h.2.1 45 (by decide)
theorem Fx.s46 {S : xS} (h : gFx S) : fS S 46 = (6, 5) := h.2.1 46 (by decide)
theorem Fx.s47 {S : xS} (h : gFx S) : fS S 47 = (1, 3) := h.2.1 47 (by decide)
theorem Fx.s48 {S : xS} (h : gFx S) : fS S 48 = (6, 5) := h.2.1 48 (by decide)
theorem Fx.s49 {S : xS} (h : gFx S) : fS S 49 = (1, 6) := h.2.1 49 (by decide)
theorem Fx.s50 {S : xS} (h : gFx S) : fS S 50 = (6, 5) := h.2.1 50 (by decide)
theorem Fx.s51 {S : xS} (h : gFx S) : fS S 51 = (1, 8) := h.2.1 51 (by decide)
theorem Fx.s52 {S : xS} (h : gFx S) : fS S 52 = (6, 2) := h.2.1 52 (by decide)
theorem Fx.s53 {S : xS} (h : gFx S) : fS S 53 = (1, 64) := h.2.1 53 (by decide)
theorem Fx.s54 {S : xS} (h : gFx S) : fS S 54 = (1, 64) := h.2.1 54 (by decide)
theorem Fx.s55 {S : xS} (h : gFx S) : fS S 55 = (1, 64) := h.2.1 55 (by decide)
theorem Fx.s56 {S : xS} (h : gFx S) : fS S 56 = (1, 3) := h.2.1 56 (by decide)
theorem Fx.s57 {S : xS} (h : gFx S) : fS S 57 = (1, 6) := h.2.1 57 (by decide)
theorem Fx.s58 {S : xS} (h : gFx S) : fS S 58 = (1, 6) := h.2.1 58 (by decide)
theorem Fx.s59 {S : xS} (h : gFx S) : fS S 59 = (1, 8) := h.2.1 59 (by decide)
theorem Fx.s60 {S : xS} (h : gFx S) : fS S 60 = (4, 8) := h.2.1 60 (by decide)
theorem Fx.s61 {S : xS} (h : gFx S) : fS S 61 = (1, 12) := h.2.1 61 (by decide)
theorem Fx.s62 {S : xS} (h : gFx S) : fS S 62 = (1, 12) := h.2.1 62 (by decide)
theorem Fx.s63 {S : xS} (h : gFx S) : fS S 63 = (1, 12) := h.2.1 63 (by decide)
theorem Fx.s64 {S : xS} (h : gFx S) : fS S 64 = (1, 2) := h.2.1 64 (by decide)
theorem Fx.s65 {S : xS} (h : gFx S) : fS S 65 = (4, 2) := h.2.1 65 (by decide)
theorem Fx.s66 {S : xS} (h : gFx S) : fS S 66 = (6, 0) := h.2.1 66 (by decide)
theorem Fx.s67 {S : xS} (h : gFx S) : fS S 67 = (6, 7) := h.2.1 67 (by decide)
theorem Fx.s68 {S : xS} (h : gFx S) : fS S 68 = (1, 729) := h.2.1 68 (by decide)
theorem Fx.s69 {S : xS} (h : gFx S) : fS S 69 = (1, 6) := h.2.1 69 (by decide)
theorem Fx.s70 {S : xS} (h : gFx S) : fS S 70 = (1, 6) := h.2.1 70 (by decide)
theorem Fx.s71 {S : xS} (h : gFx S) : fS S 71 = (1, 6) := h.2.1 71 (by decide)
theorem Fx.s72 {S : xS} (h : gFx S) : fS S 72 = (6, 7) := h.2.1 72 (by decide)
theorem Fx.s73 {S : xS} (h : gFx S) : fS S 73 = (1, 729) := h.2.1 73 (by decide)
theorem Fx.s74 {S : xS} (h : gFx S) : fS S 74 = (1, 6) := h.2.1 74 (by decide)
theorem Fx.s75 {S : xS} (h : gFx S) : fS S 75 = (1, 6) := h.2.1 75 (by decide)
theorem Fx.s76 {S : xS} (h : gFx S) : fS S 76 = (1, 6) := h.2.1 76 (by decide)
theorem Fx.s77 {S : xS} (h : gFx S) : fS S 77 = (6, 7) := h.2.1 77 (by decide)
theorem Fx.s78 {S : xS} (h : gFx S) : fS S 78 = (1, 729) := h.2.1 78 (by decide)
theorem Fx.s79 {S : xS} (h : gFx S) : fS S 79 = (1, 6) := h.2.1 79 (by decide)
theorem Fx.s80 {S : xS} (h : gFx S) : fS S 80 = (1, 6) := h.2.1 80 (by decide)
theorem Fx.s81 {S : xS} (h : gFx S) : fS S 81 = (1, 6) := h.2.1 81 (by decide)
theorem Fx.s82 {S : xS} (h : gFx S) : fS S 82 = (5, 20) := h.2.1 82 (by decide)
theorem Fx.s83 {S : xS} (h : gFx S) : fS S 83 = (6, 11) := h.2.1 83 (by decide)
theorem Fx.s84 {S : xS} (h : gFx S) : fS S 84 = (1, 700) := h.2.1 84 (by decide)
theorem Fx.s85 {S : xS} (h : gFx S) : fS S 85 = (1, 18) := h.2.1 85 (by decide)
theorem Fx.s86 {S : xS} (h : gFx S) : fS S 86 = (1, 6) := h.2.1 86 (by decide)
theorem Fx.s87 {S : xS} (h : gFx S) : fS S 87 = (1, 6) := h.2.1 87 (by decide)
theorem Fx.s88 {S : xS} (h : gFx S) : fS S 88 = (1, 12) := h.2.1 88 (by decide)
theorem Fx.s89 {S : xS} (h : gFx S) : fS S 89 = (1, 12) := h.2.1 89 (by decide)
theorem Fx.s90 {S : xS} (h : gFx S) : fS S 90 = (1, 12) := h.2.1 90 (by decide)
theorem Fx.s91 {S : xS} (h : gFx S) : fS S 91 = (1, 16) := h.2.1 91 (by decide)
theorem Fx.s92 {S : xS} (h : gFx S) : fS S 92 = (1, 16) := h.2.1 92 (by decide)
theorem Fx.s93 {S : xS} (h : gFx S) : fS S 93 = (1, 16) := h.2.1 93 (by decide)
theorem Fx.s94 {S : xS} (h : gFx S) : fS S 94 = (1, 24) := h.2.1 94 (by decide)
theorem Fx.s95 {S : xS} (h : gFx S) : fS S 95 = (1, 24) := h.2.1 95 (by decide)
theorem Fx.s96 {S : xS} (h : gFx S) : fS S 96 = (1, 24) := h.2.1 96 (by decide)
theorem Fx.s97 {S : xS} (h : gFx S) : fS S 97 = (1, 4) := h.2.1 97 (by decide)
theorem Fx.s98 {S : xS} (h : gFx S) : fS S 98 = (1, 4) := h.2.1 98 (by decide)
theorem Fx.s99 {S : xS} (h : gFx S) : fS S 99 = (1, 128) := h.2.1 99 (by decide)
theorem Fx.s100 {S : xS} (h : gFx S) : fS S 100 = (1, 128) := h.2.1 100 (by decide)
theorem Fx.s101 {S : xS} (h : gFx S) : fS S 101 = (4, 7) := h.2.1 101 (by decide)
theorem Fx.s102 {S : xS} (h : gFx S) : fS S 102 = (4, 64) := h.2.1 102 (by decide)
theorem Fx.s103 {S : xS} (h : gFx S) : fS S 103 = (1, 4374) := h.2.1 103 (by decide)
theorem Fx.s104 {S : xS} (h : gFx S) : fS S 104 = (1, 23) := h.2.1 104 (by decide)
theorem Fx.s105 {S : xS} (h : gFx S) : fS S 105 = (1, 23) := h.2.1 105 (by decide)
theorem Fx.s106 {S : xS} (h : gFx S) : fS S 106 = (1, 23) := h.2.1 106 (by decide)
theorem Fx.s107 {S : xS} (h : gFx S) : fS S 107 = (1, 23) := h.2.1 107 (by decide)
theorem Fx.s108 {S : xS} (h : gFx S) : fS S 108 = (1, 23) := h.2.1 108 (by decide)
theorem Fx.s109 {S : xS} (h : gFx S) : fS S 109 = (1, 138) := h.2.1 109 (by decide)
theorem Fx.s110 {S : xS} (h : gFx S) : fS S 110 = (1, 138) := h.2.1 110 (by decide)
theorem Fx.s111 {S : xS} (h : gFx S) : fS S 111 = (3, 16767) := h.2.1 111 (by decide)
theorem Fx.s112 {S : xS} (h : gFx S) : fS S 112 = (1, 4374) := h.2.1 112 (by decide)
theorem Fx.s113 {S : xS} (h : gFx S) : fS S 113 = (3, 4374) := h.2.1 113 (by decide)
theorem Fx.s114 {S : xS} (h : gFx S) : fS S 114 = (1, 729) := h.2.1 114 (by decide)
theorem Fx.s115 {S : xS} (h : gFx S) : fS S 115 = (3, 729) := h.2.1 115 (by decide)
theorem Fx.s116 {S : xS} (h : gFx S) : fS S 116 = (1, 729) := h.2.1 116 (by decide)
theorem Fx.s117 {S : xS} (h : gFx S) : fS S 117 = (3, 5832) := h.2.1 117 (by decide)
theorem Fx.s118 {S : xS} (h : gFx S) : fS S 118 = (3, 48114) := h.2.1 118 (by decide)
theorem Fx.r0_0 {S : xS} (h : gFx S) : fR S 0 0 = some 1 := h.2.2 (0, 0, 1) (List.mem_of_getElem? (i := 0) rfl)
theorem Fx.r0_2 {S : xS} (h : gFx S) : fR S 0 2 = some 2 := h.2.2 (0, 2, 2) (List.mem_of_getElem? (i := 1) rfl)
theorem Fx.r0_3 {S : xS} (h : gFx S) : fR S 0 3 = some 7 := h.2.2 (0, 3, 7) (List.mem_of_getElem? (i := 2) rfl)
theorem Fx.r0_4 {S : xS} (h : gFx S) : fR S 0 4 = some 16 := h.2.2 (0, 4, 16) (List.mem_of_getElem? (i := 3) rfl)
theorem Fx.r0_5 {S : xS} (h : gFx S) : fR S 0 5 = some 22 := h.2.2 (0, 5, 22) (List.mem_of_getElem? (i := 4) rfl)
theorem Fx.r0_8 {S : xS} (h : gFx S) : fR S 0 8 = some 66 := h.2.2 (0, 8, 66) (List.mem_of_getElem? (i := 5) rfl)
theorem Fx.r0_9 {S : xS} (h : gFx S) : fR S 0 9 = some 67 := h.2.2 (0, 9, 67) (List.mem_of_getElem? (i := 6) rfl)
theorem Fx.r0_10 {S : xS} (h : gFx S) : fR S 0 10 = some 72 := h.2.2 (0, 10, 72) (List.mem_of_getElem? (i := 7) rfl)
theorem Fx.r0_11 {S : xS} (h : gFx S) : fR S 0 11 = some 77 := h.2.2 (0, 11, 77) (List.mem_of_getElem? (i := 8) rfl)
theorem Fx.r0_13 {S : xS} (h : gFx S) : fR S 0 13 = some 82 := h.2.2 (0, 13, 82) (List.mem_of_getElem? (i := 9) rfl)
theorem Fx.r2_0 {S : xS} (h : gFx S) : fR S 2 0 = some 3 := h.2.2 (2, 0, 3) (List.mem_of_getElem? (i := 10) rfl)
theorem Fx.r2_1 {S : xS} (h : gFx S) : fR S 2 1 = some 4 := h.2.2 (2, 1, 4) (List.mem_of_getElem? (i := 11) rfl)
theorem Fx.r2_2 {S : xS} (h : gFx S) : fR S 2 2 = some 5 := h.2.2 (2, 2, 5) (List.mem_of_getElem? (i := 12) rfl)
theorem Fx.r2_3 {S : xS} (h : gFx S) : fR S 2 3 = some 6 := h.2.2 (2, 3, 6) (List.mem_of_getElem? (i := 13) rfl)
theorem Fx.r7_0 {S : xS} (h : gFx S) : fR S 7 0 = some 2 := h.2.2 (7, 0, 2) (List.mem_of_getElem? (i := 14) rfl)
theorem Fx.r7_1 {S : xS} (h : gFx S) : fR S 7 1 = some 8 := h.2.2 (7, 1, 8) (List.mem_of_getElem? (i := 15) rfl)
theorem Fx.r8_0 {S : xS} (h : gFx S) : fR S 8 0 = some 2 := h.2.2 (8, 0, 2) (List.mem_of_getElem? (i := 16) rfl)
theorem Fx.r8_1 {S : xS} (h : gFx S) : fR S 8 1 = some 9 := h.2.2 (8, 1, 9) (List.mem_of_getElem? (i := 17) rfl)
theorem Fx.r8_2 {S : xS} (h : gFx S) : fR S 8 2 = some 10 := h.2.2 (8, 2, 10) (List.mem_of_getElem? (i := 18) rfl)
theorem Fx.r8_4 {S : xS} (h : gFx S) : fR S 8 4 = some 11 := h.2.2 (8, 4, 11) (List.mem_of_getElem? (i := 19) rfl)
theorem Fx.r12_0 {S : xS} (h : gFx S) : fR S 12 0 = some 13 := h.2.2 (12, 0, 13) (List.mem_of_getElem? (i := 20) rfl)
theorem Fx.r12_1 {S : xS} (h : gFx S) : fR S 12 1 = some 14 := h.2.2 (12, 1, 14) (List.mem_of_getElem? (i := 21) rfl)
theorem Fx.r12_2 {S : xS} (h : gFx S) : fR S 12 2 = some 15 := h.2.2 (12, 2, 15) (List.mem_of_getElem? (i := 22) rfl)
theorem Fx.r16_0 {S : xS} (h : gFx S) : fR S 16 0 = some 17 := h.2.2 (16, 0, 17) (List.mem_of_getElem? (i := 23) rfl)
theorem Fx.r16_1 {S : xS} (h : gFx S) : fR S 16 1 = some 18 := h.2.2 (16, 1, 18) (List.mem_of_getElem? (i := 24) rfl)
theorem Fx.r16_3 {S : xS} (h : gFx S) : fR S 16 3 = some 19 := h.2.2 (16, 3, 19) (List.mem_of_getElem? (i := 25) rfl)
theorem Fx.r16_4 {S : xS} (h : gFx S) : fR S 16 4 = some 20 := h.2.2 (16, 4, 20) (List.mem_of_getElem? (i := 26) rfl)
theorem Fx.r16_6 {S : xS} (h : gFx S) : fR S 16 6 = some 21 := h.2.2 (16, 6, 21) (List.mem_of_getElem? (i := 27) rfl)
theorem Fx.r22_0 {S : xS} (h : gFx S) : fR S 22 0 = some 23 := h.2.2 (22, 0, 23) (List.mem_of_getElem? (i := 28) rfl)
theorem Fx.r24_0 {S : xS} (h : gFx S) : fR S 24 0 = some 25 := h.2.2 (24, 0, 25) (List.mem_of_getElem? (i := 29) rfl)
theorem Fx.r24_1 {S : xS} (h : gFx S) : fR S 24 1 = some 27 := h.2.2 (24, 1, 27) (List.mem_of_getElem? (i := 30) rfl)
theorem Fx.r24_2 {S : xS} (h : gFx S) : fR S 24 2 = some 29 := h.2.2 (24, 2, 29) (List.mem_of_getElem? (i := 31) rfl)
theorem Fx.r24_3 {S : xS} (h : gFx S) : fR S 24 3 = some 31 := h.2.2 (24, 3, 31) (List.mem_of_getElem? (i := 32) rfl)
theorem Fx.r24_4 {S : xS} (h : gFx S) : fR S 24 4 = some 35 := h.2.2 (24, 4, 35) (List.mem_of_getElem? (i := 33) rfl)
theorem Fx.r24_5 {S : xS} (h : gFx S) : fR S 24 5 = some 36 := h.2.2 (24, 5, 36) (List.mem_of_getElem? (i := 34) rfl)
theorem Fx.r24_6 {S : xS} (h : gFx S) : fR S 24 6 = some 37 := h.2.2 (24, 6, 37) (List.mem_of_getElem? (i := 35) rfl)
theorem Fx.r24_7 {S : xS} (h : gFx S) : fR S 24 7 = some 38 := h.2.2 (24, 7, 38) (List.mem_of_getElem? (i := 36) rfl)
theorem Fx.r24_8 {S : xS} (h : gFx S) : fR S 24 8 = some 39 := h.2.2 (24, 8, 39) (List.mem_of_getElem? (i := 37) rfl)
theorem Fx.r24_10 {S : xS} (h : gFx S) : fR S 24 10 = some 40 := h.2.2 (24, 10, 40) (List.mem_of_getElem? (i := 38) rfl)
theorem Fx.r24_11 {S : xS} (h : gFx S) : fR S 24 11 = some 41 := h.2.2 (24, 11, 41) (List.mem_of_getElem? (i := 39) rfl)
theorem Fx.r24_13 {S : xS} (h : gFx S) : fR S 24 13 = some 42 := h.2.2 (24, 13, 42) (List.mem_of_getElem? (i := 40) rfl)
theorem Fx.r24_14 {S : xS} (h : gFx S) : fR S 24 14 = some 43 := h.2.2 (24, 14, 43) (List.mem_of_getElem? (i := 41) rfl)
theorem Fx.r24_15 {S : xS} (h : gFx S) : fR S 24 15 = some 44 := h.2.2 (24, 15, 44) (List.mem_of_getElem? (i := 42) rfl)
theorem Fx.r25_0 {S : xS} (h : gFx S) : fR S 25 0 = some 26 := h.2.2 (25, 0, 26) (List.mem_of_getElem? (i := 43) rfl)
theorem Fx.r27_0 {S : xS} (h : gFx S) : fR S 27 0 = some 28 := h.2.2 (27, 0, 28) (List.mem_of_getElem? (i := 44) rfl)
theorem Fx.r29_0 {S : xS} (h : gFx S) : fR S 29 0 = some 30 := h.2.2 (29, 0, 30) (List.mem_of_getElem? (i := 45) rfl)
theorem Fx.r31_0 {S : xS} (h : gFx S) : fR S 31 0 = some 32 := h.2.2 (31, 0, 32) (List.mem_of_getElem? (i := 46) rfl)
theorem Fx.r31_1 {S : xS} (h : gFx S) : fR S 31 1 = some 33 := h.2.2 (31, 1, 33) (List.mem_of_getElem? (i := 47) rfl)
theorem Fx.r31_2 {S : xS} (h : gFx S) : fR S 31 2 = some 34 := h.2.2 (31, 2, 34) (List.mem_of_getElem? (i := 48) rfl)
theorem Fx.r45_0 {S : xS} (h : gFx S) : fR S 45 0 = some 46 := h.2.2 (45, 0, 46) (List.mem_of_getElem? (i := 49) rfl)
theorem Fx.r45_1 {S : xS} (h : gFx S) : fR S 45 1 = some 48 := h.2.2 (45, 1, 48) (List.mem_of_getElem? (i := 50) rfl)
theorem Fx.r45_2 {S : xS} (h : gFx S) : fR S 45 2 = some 50 := h.2.2 (45, 2, 50) (List.mem_of_getElem? (i := 51) rfl)
theorem Fx.r45_3 {S : xS} (h : gFx S) : fR S 45 3 = some 52 := h.2.2 (45, 3, 52) (List.mem_of_getElem? (i := 52) rfl)
theorem Fx.r45_4 {S : xS} (h : gFx S) : fR S 45 4 = some 56 := h.2.2 (45, 4, 56) (List.mem_of_getElem? (i := 53) rfl)
theorem Fx.r45_5 {S : xS} (h : gFx S) : fR S 45 5 = some 57 := h.2.2 (45, 5, 57) (List.mem_of_getElem? (i := 54) rfl)
theorem Fx.r45_6 {S : xS} (h : gFx S) : fR S 45 6 = some 58 := h.2.2 (45, 6, 58) (List.mem_of_getElem? (i := 55) rfl)
theorem Fx.r45_7 {S : xS} (h : gFx S) : fR S 45 7 = some 59 := h.2.2 (45, 7, 59) (List.mem_of_getElem? (i := 56) rfl)
theorem Fx.r45_8 {S : xS} (h : gFx S) : fR S 45 8 = some 60 := h.2.2 (45, 8, 60) (List.mem_of_getElem? (i := 57) rfl)
theorem Fx.r45_10 {S : xS} (h : gFx S) : fR S 45 10 = some 61 := h.2.2 (45, 10, 61) (List.mem_of_getElem? (i := 58) rfl)
theorem Fx.r45_11 {S : xS} (h : gFx S) : fR S 45 11 = some 62 := h.2.2 (45, 11, 62) (List.mem_of_getElem? (i := 59) rfl)
theorem Fx.r45_13 {S : xS} (h : gFx S) : fR S 45 13 = some 63 := h.2.2 (45, 13, 63) (List.mem_of_getElem? (i := 60) rfl)
theorem Fx.r45_14 {S : xS} (h : gFx S) : fR S 45 14 = some 64 := h.2.2 (45, 14, 64) (List.mem_of_getElem? (i := 61) rfl)
theorem Fx.r45_15 {S : xS} (h : gFx S) : fR S 45 15 = some 65 := h.2.2 (45, 15, 65) (List.mem_of_getElem? (i := 62) rfl)
theorem Fx.r46_0 {S : xS} (h : gFx S) : fR S 46 0 = some 47 := h.2.2 (46, 0, 47) (List.mem_of_getElem? (i := 63) rfl)
theorem Fx.r48_0 {S : xS} (h : gFx S) : fR S 48 0 = some 49 := h.2.2 (48, 0, 49) (List.mem_of_getElem? (i := 64) rfl)
theorem Fx.r50_0 {S : xS} (h : gFx S) : fR S 50 0 = some 51 := h.2.2 (50, 0, 51) (List.mem_of_getElem? (i := 65) rfl)
theorem Fx.r52_0 {S : xS} (h : gFx S) : fR S 52 0 = some 53 := h.2.2 (52, 0, 53) (List.mem_of_getElem? (i := 66) rfl)
theorem Fx.r52_1 {S : xS} (h : gFx S) : fR S 52 1 = some 54 := h.2.2 (52, 1, 54) (List.mem_of_getElem? (i := 67) rfl)
theorem Fx.r52_2 {S : xS} (h : gFx S) : fR S 52 2 = some 55 := h.2.2 (52, 2, 55) (List.mem_of_getElem? (i := 68) rfl)
theorem Fx.r66_0 {S : xS} (h : gFx S) : fR S 66 0 = some 16 := h.2.2 (66, 0, 16) (List.mem_of_getElem? (i := 69) rfl)
theorem Fx.r66_1 {S : xS} (h : gFx S) : fR S 66 1 = some 22 := h.2.2 (66, 1, 22) (List.mem_of_getElem? (i := 70) rfl)
theorem Fx.r67_0 {S : xS} (h : gFx S) : fR S 67 0 = some 68 := h.2.2 (67, 0, 68) (List.mem_of_getElem? (i := 71) rfl)
theorem Fx.r67_1 {S : xS} (h : gFx S) : fR S 67 1 = some 69 := h.2.2 (67, 1, 69) (List.mem_of_getElem? (i := 72) rfl)
theorem Fx.r67_2 {S : xS} (h : gFx S) : fR S 67 2 = some 70 := h.2.2 (67, 2, 70) (List.mem_of_getElem? (i := 73) rfl)
theorem Fx.r67_3 {S : xS} (h : gFx S) : fR S 67 3 = some 71 := h.2.2 (67, 3, 71) (List.mem_of_getElem? (i := 74) rfl)
theorem Fx.r72_0 {S : xS} (h : gFx S) : fR S 72 0 = some 73 := h.2.2 (72, 0, 73) (List.mem_of_getElem? (i := 75) rfl)
theorem Fx.r72_1 {S : xS} (h : gFx S) : fR S 72 1 = some 74 := h.2.2 (72, 1, 74) (List.mem_of_getElem? (i := 76) rfl)
theorem Fx.r72_2 {S : xS} (h : gFx S) : fR S 72 2 = some 75 := h.2.2 (72, 2, 75) (List.mem_of_getElem? (i := 77) rfl)
theorem Fx.r72_3 {S : xS} (h : gFx S) : fR S 72 3 = some 76 := h.2.2 (72, 3, 76) (List.mem_of_getElem? (i := 78) rfl)
theorem Fx.r77_0 {S : xS} (h : gFx S) : fR S 77 0 = some 78 := h.2.2 (77, 0, 78) (List.mem_of_getElem? (i := 79) rfl)
theorem Fx.r77_1 {S : xS} (h : gFx S) : fR S 77 1 = some 79 := h.2.2 (77, 1, 79) (List.mem_of_getElem? (i := 80) rfl)
theorem Fx.r77_2 {S : xS} (h : gFx S) : fR S 77 2 = some 80 := h.2.2 (77, 2, 80) (List.mem_of_getElem? (i := 81) rfl)
theorem Fx.r77_3 {S : xS} (h : gFx S) : fR S 77 3 = some 81 := h.2.2 (77, 3, 81) (List.mem_of_getElem? (i := 82) rfl)
theorem Fx.r83_1 {S : xS} (h : gFx S) : fR S 83 1 = some 84 := h.2.2 (83, 1, 84) (List.mem_of_getElem? (i := 83) rfl)
theorem Fx.r83_3 {S : xS} (h : gFx S) : fR S 83 3 = some 85 := h.2.2 (83, 3, 85) (List.mem_of_getElem? (i := 84) rfl)
theorem Fx.r83_4 {S : xS} (h : gFx S) : fR S 83 4 = some 86 := h.2.2 (83, 4, 86) (List.mem_of_getElem? (i := 85) rfl)
theorem Fx.r83_5 {S : xS} (h : gFx S) : fR S 83 5 = some 87 := h.2.2 (83, 5, 87) (List.mem_of_getElem? (i := 86) rfl)
theorem Fx.r83_6 {S : xS} (h : gFx S) : fR S 83 6 = some 88 := h.2.2 (83, 6, 88) (List.mem_of_getElem? (i := 87) rfl)
theorem Fx.r83_7 {S : xS} (h : gFx S) : fR S 83 7 = some 89 := h.2.2 (83, 7, 89) (List.mem_of_getElem? (i := 88) rfl)
theorem Fx.r83_8 {S : xS} (h : gFx S) : fR S 83 8 = some 90 := h.2.2 (83, 8, 90) (List.mem_of_getElem? (i := 89) rfl)
theorem Fx.r83_9 {S : xS} (h : gFx S) : fR S 83 9 = some 91 := h.2.2 (83, 9, 91) (List.mem_of_getElem? (i := 90) rfl)
theorem Fx.r83_10 {S : xS} (h : gFx S) : fR S 83 10 = some 92 := h.2.2 (83, 10, 92) (List.mem_of_getElem? (i := 91) rfl)
theorem Fx.r83_11 {S : xS} (h : gFx S) : fR S 83 11 = some 93 := h.2.2 (83, 11, 93) (List.mem_of_getElem? (i := 92) rfl)
theorem Fx.r83_12 {S : xS} (h : gFx S) : fR S 83 12 = some 94 := h.2.2 (83, 12, 94) (List.mem_of_getElem? (i := 93) rfl)
theorem Fx.r83_13 {S : xS} (h : gFx S) : fR S 83 13 = some 95 := h.2.2 (83, 13, 95) (List.mem_of_getElem? (i := 94) rfl)
theorem Fx.r83_14 {S : xS} (h : gFx S) : fR S 83 14 = some 96 := h.2.2 (83, 14, 96) (List.mem_of_getElem? (i := 95) rfl)
theorem Fx.r83_15 {S : xS} (h : gFx S) : fR S 83 15 = some 97 := h.2.2 (83, 15, 97) (List.mem_of_getElem? (i := 96) rfl)
theorem Fx.r83_16 {S : xS} (h : gFx S) : fR S 83 16 = some 98 := h.2.2 (83, 16, 98) (List.mem_of_getElem? (i := 97) rfl)
theorem Fx.r83_17 {S : xS} (h : gFx S) : fR S 83 17 = some 99 := h.2.2 (83, 17, 99) (List.mem_of_getElem? (i := 98) rfl)
theorem Fx.r83_18 {S : xS} (h : gFx S) : fR S 83 18 = some 100 := h.2.2 (83, 18, 100) (List.mem_of_getElem? (i := 99) rfl)
theorem Fx.r83_32 {S : xS} (h : gFx S) : fR S 83 32 = some 101 := h.2.2 (83, 32, 101) (List.mem_of_getElem? (i := 100) rfl)
theorem Fx.r83_33 {S : xS} (h : gFx S) : fR S 83 33 = some 102 := h.2.2 (83, 33, 102) (List.mem_of_getElem? (i := 101) rfl)
theorem Fx.r83_35 {S : xS} (h : gFx S) : fR S 83 35 = some 103 := h.2.2 (83, 35, 103) (List.mem_of_getElem? (i := 102) rfl)
theorem Fx.r83_38 {S : xS} (h : gFx S) : fR S 83 38 = some 104 := h.2.2 (83, 38, 104) (List.mem_of_getElem? (i := 103) rfl)
theorem Fx.r83_39 {S : xS} (h : gFx S) : fR S 83 39 = some 105 := h.2.2 (83, 39, 105) (List.mem_of_getElem? (i := 104) rfl)
theorem Fx.r83_40 {S : xS} (h : gFx S) : fR S 83 40 = some 106 := h.2.2 (83, 40, 106) (List.mem_of_getElem? (i := 105) rfl)
theorem Fx.r83_41 {S : xS} (h : gFx S) : fR S 83 41 = some 107 := h.2.2 (83, 41, 107) (List.mem_of_getElem? (i := 106) rfl)
theorem Fx.r83_42 {S : xS} (h : gFx S) : fR S 83 42 = some 108 := h.2.2 (83, 42, 108) (List.mem_of_getElem? (i := 107) rfl)
theorem Fx.r83_43 {S : xS} (h : gFx S) : fR S 83 43 = some 109 := h.2.2 (83, 43, 109) (List.mem_of_getElem? (i := 108) rfl)
theorem Fx.r83_44 {S : xS} (h : gFx S) : fR S 83 44 = some 110 := h.2.2 (83, 44, 110) (List.mem_of_getElem? (i := 109) rfl)
theorem Fx.r83_45 {S : xS} (h : gFx S) : fR S 83 45 = some 111 := h.2.2 (83, 45, 111) (List.mem_of_getElem? (i := 110) rfl)
theorem Fx.r83_49 {S : xS} (h : gFx S) : fR S 83 49 = some 112 := h.2.2 (83, 49, 112) (List.mem_of_getElem? (i := 111) rfl)
theorem Fx.r83_50 {S : xS} (h : gFx S) : fR S 83 50 = some 113 := h.2.2 (83, 50, 113) (List.mem_of_getElem? (i := 112) rfl)
theorem Fx.r83_51 {S : xS} (h : gFx S) : fR S 83 51 = some 114 := h.2.2 (83, 51, 114) (List.mem_of_getElem? (i := 113) rfl)
theorem Fx.r83_52 {S : xS} (h : gFx S) : fR S 83 52 = some 115 := h.2.2 (83, 52, 115) (List.mem_of_getElem? (i := 114) rfl)
theorem Fx.r83_53 {S : xS} (h : gFx S) : fR S 83 53 = some 116 := h.2.2 (83, 53, 116) (List.mem_of_getElem? (i := 115) rfl)
theorem Fx.r83_54 {S : xS} (h : gFx S) : fR S 83 54 = some 117 := h.2.2 (83, 54, 117) (List.mem_of_getElem? (i := 116) rfl)
theorem Fx.r83_55 {S : xS} (h : gFx S) : fR S 83 55 = some 118 := h.2.2 (83, 55, 118) (List.mem_of_getElem? (i := 117) rfl)
theorem Fx.g24 {S : xS} (h : gFx S) : gTx S 24 := ⟨Fx.s24 h, Fx.s35 h, Fx.s36 h, Fx.s37 h, Fx.s38 h, Fx.s39 h, Fx.s40 h, Fx.s41 h, Fx.s42 h, Fx.s43 h, Fx.s44 h, Fx.r24_0 h, Fx.r24_1 h, Fx.r24_2 h, Fx.r24_3 h, Fx.r24_4 h, Fx.r24_5 h, Fx.r24_6 h, Fx.r24_7 h, Fx.r24_8 h, Fx.r24_10 h, Fx.r24_11 h, Fx.r24_13 h, Fx.r24_14 h, Fx.r24_15 h, ⟨Fx.s25 h, Fx.s26 h, Fx.r25_0 h⟩, ⟨Fx.s27 h, Fx.s28 h, Fx.r27_0 h⟩, ⟨Fx.s29 h, Fx.s30 h, Fx.r29_0 h⟩, ⟨Fx.s31 h, Fx.s32 h, Fx.s33 h, Fx.s34 h, Fx.r31_0 h, Fx.r31_1 h, Fx.r31_2 h⟩⟩
theorem Fx.g45 {S : xS} (h : gFx S) : gTx S 45 := ⟨Fx.s45 h, Fx.s56 h, Fx.s57 h, Fx.s58 h, Fx.s59 h, Fx.s60 h, Fx.s61 h, Fx.s62 h, Fx.s63 h, Fx.s64 h, Fx.s65 h, Fx.r45_0 h, Fx.r45_1 h, Fx.r45_2 h, Fx.r45_3 h, Fx.r45_4 h, Fx.r45_5 h, Fx.r45_6 h, Fx.r45_7 h, Fx.r45_8 h, Fx.r45_10 h, Fx.r45_11 h, Fx.r45_13 h, Fx.r45_14 h, Fx.r45_15 h, ⟨Fx.s46 h, Fx.s47 h, Fx.r46_0 h⟩, ⟨Fx.s48 h, Fx.s49 h, Fx.r48_0 h⟩, ⟨Fx.s50 h, Fx.s51 h, Fx.r50_0 h⟩, ⟨Fx.s52 h, Fx.s53 h, Fx.s54 h, Fx.s55 h, Fx.r52_0 h, Fx.r52_1 h, Fx.r52_2 h⟩⟩
theorem Fx.g67 {S : xS} (h : gFx S) : gSt S 67 := ⟨Fx.s67 h, Fx.s68 h, Fx.s69 h, Fx.s70 h, Fx.s71 h, Fx.r67_0 h, Fx.r67_1 h, Fx.r67_2 h, Fx.r67_3 h⟩
theorem Fx.g72 {S : xS} (h : gFx S) : gSt S 72 := ⟨Fx.s72 h, Fx.s73 h, Fx.s74 h, Fx.s75 h, Fx.s76 h, Fx.r72_0 h, Fx.r72_1 h, Fx.r72_2 h, Fx.r72_3 h⟩
theorem Fx.g77 {S : xS} (h : gFx S) : gSt S 77 := ⟨Fx.s77 h, Fx.s78 h, Fx.s79 h, Fx.s80 h, Fx.s81 h, Fx.r77_0 h, Fx.r77_1 h, Fx.r77_2 h, Fx.r77_3 h⟩
theorem Fx.g12 {S : xS} (h : gFx S) : gKn S 12 := ⟨Fx.s12 h, Fx.s13 h, Fx.s14 h, Fx.s15 h, Fx.r12_0 h, Fx.r12_1 h, Fx.r12_2 h⟩
theorem nl_RX1_23 : (RX1, 23, yX2_init, RX10) ∈ lw_nest := by decide +kernel
theorem nl_RX10_33 : (RX10, 33, yX4_init, RX10) ∈ lw_nest := by decide +kernel
theorem nl_RX10_40 : (RX10, 40, yX3_init, RX10) ∈ lw_nest := by decide +kernel
theorem nl_RX10_47 : (RX10, 47, yX8_init, RX10) ∈ lw_nest := by decide +kernel
theorem nl_RX8_28 : (RX8, 28, yX2_init, RX10) ∈ lw_nest := by decide +kernel
theorem nl_RX10_66 : (RX10, 66, yX7_init, RX10) ∈ lw_nest := by decide +kernel
theorem nl_RX7_86 : (RX7, 86, yX10_shiftOf, RX10) ∈ lw_nest := by decide +kernel
theorem nl_RX8_88 : (RX8, 88, yX10_shiftOf, RX10) ∈ lw_nest := by decide +kernel
theorem nl_RX6_126 : (RX6, 126, yX10_shiftOf, RX10) ∈ lw_nest := by decide +kernel
theorem nl_RX7_96 : (RX7, 96, yX10_colourIn, RX10) ∈ lw_nest := by decide +kernel
theorem nl_RX4_91 : (RX4, 91, yX10_colourIn, RX10) ∈ lw_nest := by decide +kernel
section XA
variable {M M' : xM} {k k' b1 b2 c1 c2 pc n i a : Nat} {L : List (Option Value)} {st : List Value} {S S1 : xS} {H H1 : xH} {Q : xR → Prop}
theorem xq_callV0G {C : String} {T : u_T} {N ci : Nat} {ty : Nat → FieldType} {rest : List Value} (cl : xCl ci C T N ty) (hg : xGd M' 0) (d : decode (mC M) pc = .ok (.invokevirtual i, 3)) (hl : Cond.methodLink (mY M).cls i (mY M') ∈ lw_g) (hi : Cond.instanceMethod (mY M') ∈ lw_g) (hse : Cond.selects (mY M').cls (mY M') (mY M') ∈ lw_g) (hC : (mY M').cls = C) (hs : fS S a = (6, ci)) (hW : (rest.map fun v => v.category).sum ≤ 8) (hk : k' < k) {Q' : xR → Prop} (hE : Vq M' k' c1 c2 [.ref a] S H Q') (kk : ∀ r S1 H1, Q' (r, S1, H1) → Xq M k b1 b2 (pc + 3) L (r.toList ++ rest) S1 H1 Q) : Xq M k (b1 + c1) (b2 + c2) pc L (.ref a :: rest) S H Q := xq_callV_G (As := []) cl hg d hl hi hse hC hs rfl rfl hW hk hE kk
theorem xq_callV0P {C : String} {T : u_T} {N ci : Nat} {ty : Nat → FieldType} {rest : List Value} (cl : xCl ci C T N ty) (hg : xGd M' 0) (d : decode (mC M) pc = .ok (.invokevirtual i, 3)) (hl : Cond.methodLink (mY M).cls i (mY M') ∈ lw_g) (hi : Cond.instanceMethod (mY M') ∈ lw_g) (hse : Cond.selects (mY M').cls (mY M') (mY M') ∈ lw_g) (hC : (mY M').cls = C) (hs : fS S a = (6, ci)) (hW : (rest.map fun v => v.category).sum ≤ 8) (hk : k' < k) {v : Value} (hE : Pv M' k' [.ref a] S H v) (kk : Xq M k b1 b2 (pc + 3) L (v :: rest) S H Q) : Xq M k b1 b2 pc L (.ref a :: rest) S H Q := xq_callV_P (As := []) cl hg d hl hi hse hC hs rfl rfl hW hk hE kk
theorem xq_callV0H {C : String} {T : u_T} {N ci : Nat} {ty : Nat → FieldType} {rest : List Value} (cl : xCl ci C T N ty) (hg : xGd M' 0) (d : decode (mC M) pc = .ok (.invokevirtual i, 3)) (hl : Cond.methodLink (mY M).cls i (mY M') ∈ lw_g) (hi : Cond.instanceMethod (mY M') ∈ lw_g) (hse : Cond.selects (mY M').cls (mY M') (mY M') ∈ lw_g) (hC : (mY M').cls = C) (hs : fS S a = (6, ci)) (hW : (rest.map fun v => v.category).sum ≤ 8) (hk : k' < k) {α : Type} {f : α → Value} {P : α → xH → Prop} (hE : Hv M' k' [.ref a] S H f P) (kk : ∀ x H1, P x H1 → Xq M k b1 b2 (pc + 3) L (f x :: rest) S H1 Q) : Xq M k b1 b2 pc L (.ref a :: rest) S H Q := xq_callV_H (As := []) cl hg d hl hi hse hC hs rfl rfl hW hk hE kk
theorem xq_callV0N {C : String} {T : u_T} {N ci : Nat} {ty : Nat → FieldType} {rest : List Value} (cl : xCl ci C T N ty) (hg : xGd M' 0) (d : decode (mC M) pc = .ok (.invokevirtual i, 3)) (hl : Cond.methodLink (mY M).cls i (mY M') ∈ lw_g) (hi : Cond.instanceMethod (mY M') ∈ lw_g) (hse : Cond.selects (mY M').cls (mY M') (mY M') ∈ lw_g) (hC : (mY M').cls = C) (hs : fS S a = (6, ci)) (hW : (rest.map fun v => v.category).sum ≤ 8) (hk : k' < k) {P : xH → Prop} (hE : Nv M' k' [.ref a] S H P) (kk : ∀ H1, P H1 → Xq M k b1 b2 (pc + 3) L rest S H1 Q) : Xq M k b1 b2 pc L (.ref a :: rest) S H Q := xq_callV_N (As := []) cl hg d hl hi hse hC hs rfl rfl hW hk hE kk
theorem xq_callV1G {C : String} {T : u_T} {N ci : Nat} {ty : Nat → FieldType} {x0 : Value} {rest : List Value} (cl : xCl ci C T N ty) (hg : xGd M' 1) (d : decode (mC M) pc = .ok (.invokevirtual i, 3)) (hl : Cond.methodLink (mY M).cls i (mY M') ∈ lw_g) (hi : Cond.instanceMethod (mY M') ∈ lw_g) (hse : Cond.selects (mY M').cls (mY M') (mY M') ∈ lw_g) (hC : (mY M').cls = C) (hs : fS S a = (6, ci)) (hW : (rest.map fun v => v.category).sum ≤ 8) (hk : k' < k) {Q' : xR → Prop} (hE : Vq M' k' c1 c2 [.ref a, x0] S H Q') (kk : ∀ r S1 H1, Q' (r, S1, H1) → Xq M k b1 b2 (pc + 3) L (r.toList ++ rest) S1 H1 Q) : Xq M k (b1 + c1) (b2 + c2) pc L (x0 :: .ref a :: rest) S H Q := xq_callV_G (As := [x0]) cl hg d hl hi hse hC hs rfl rfl hW hk hE kk
theorem xq_callV1P {C : String} {T : u_T} {N ci : Nat} {ty : Nat → FieldType} {x0 : Value} {rest : List Value} (cl : xCl ci C T N ty) (hg : xGd M' 1) (d : decode (mC M) pc = .ok (.invokevirtual i, 3)) (hl : Cond.methodLink (mY M).cls i (mY M') ∈ lw_g) (hi : Cond.instanceMethod (mY M') ∈ lw_g) (hse : Cond.selects (mY M').cls (mY M') (mY M') ∈ lw_g) (hC : (mY M').cls = C) (hs : fS S a = (6, ci)) (hW : (rest.map fun v => v.category).sum ≤ 8) (hk : k' < k) {v : Value} (hE : Pv M' k' [.ref a, x0] S H v) (kk : Xq M k b1 b2 (pc + 3) L (v :: rest) S H Q) : Xq M k b1 b2 pc L (x0 :: .ref a :: rest) S H Q := xq_callV_P (As := [x0]) cl hg d hl hi hse hC hs rfl rfl hW hk hE kk
theorem xq_callV1H {C : String} {T : u_T} {N ci : Nat} {ty : Nat → FieldType} {x0 : Value} {rest : List Value} (cl : xCl ci C T N ty) (hg : xGd M' 1) (d : decode (mC M) pc = .ok (.invokevirtual i, 3)) (hl : Cond.methodLink (mY M).cls i (mY M') ∈ lw_g) (hi : Cond.instanceMethod (mY M') ∈ lw_g) (hse : Cond.selects (mY M').cls (mY M') (mY M') ∈ lw_g) (hC : (mY M').cls = C) (hs : fS S a = (6, ci)) (hW : (rest.map fun v => v.category).sum ≤ 8) (hk : k' < k) {α : Type} {f : α → Value} {P : α → xH → Prop} (hE : Hv M' k' [.ref a, x0] S H f P) (kk : ∀ x H1, P x H1 → Xq M k b1 b2 (pc + 3) L (f x :: rest) S H1 Q) : Xq M k b1 b2 pc L (x0 :: .ref a :: rest) S H Q := xq_callV_H (As := [x0]) cl hg d hl hi hse hC hs rfl rfl hW hk hE kk
theorem xq_callV1N {C : String} {T : u_T} {N ci : Nat} {ty : Nat → FieldType} {x0 : Value} {rest : List Value} (cl : xCl ci C T N ty) (hg : xGd M' 1) (d : decode (mC M) pc = .ok (.invokevirtual i, 3)) (hl : Cond.methodLink (mY M).cls i (mY M') ∈ lw_g) (hi : Cond.instanceMethod (mY M') ∈ lw_g) (hse : Cond.selects (mY M').cls (mY M') (mY M') ∈ lw_g) (hC : (mY M').cls = C) (hs : fS S a = (6, ci)) (hW : (rest.map fun v => v.category).sum ≤ 8) (hk : k' < k) {P : xH → Prop} (hE : Nv M' k' [.ref a, x0] S H P) (kk : ∀ H1, P H1 → Xq M k b1 b2 (pc + 3) L rest S H1 Q) : Xq M k b1 b2 pc L (x0 :: .ref a :: rest) S H Q := xq_callV_N (As := [x0]) cl hg d hl hi hse hC hs rfl rfl hW hk hE kk
theorem xq_callV2G {C : String} {T : u_T} {N ci : Nat} {ty : Nat → FieldType} {x0 x1 : Value} {rest : List Value} (cl : xCl ci C T N ty) (hg : xGd M' 2) (d : decode (mC M) pc = .ok (.invokevirtual i, 3)) (hl : Cond.methodLink (mY M).cls i (mY M') ∈ lw_g) (hi : Cond.instanceMethod (mY M') ∈ lw_g) (hse : Cond.selects (mY M').cls (mY M') (mY M') ∈ lw_g) (hC : (mY M').cls = C) (hs : fS S a = (6, ci)) (hW : (rest.map fun v => v.category).sum ≤ 8) (hk : k' < k) {Q' : xR → Prop} (hE : Vq M' k' c1 c2 [.ref a, x0, x1] S H Q') (kk : ∀ r S1 H1, Q' (r, S1, H1) → Xq M k b1 b2 (pc + 3) L (r.toList ++ rest) S1 H1 Q) : Xq M k (b1 + c1) (b2 + c2) pc L (x1 :: x0 :: .ref a :: rest) S H Q := xq_callV_G (As := [x0, x1]) cl hg d hl hi hse hC hs rfl rfl hW hk hE kk
theorem xq_callV2P {C : String} {T : u_T} {N ci : Nat} {ty : Nat → FieldType} {x0 x1 : Value} {rest : List Value} (cl : xCl ci C T N ty) (hg : xGd M' 2) (d : decode (mC M) pc = .ok (.invokevirtual i, 3)) (hl : Cond.methodLink (mY M).cls i (mY M') ∈ lw_g) (hi : Cond.instanceMethod (mY M') ∈ lw_g) (hse : Cond.selects (mY M').cls (mY M') (mY M') ∈ lw_g) (hC : (mY M').cls = C) (hs : fS S a = (6, ci)) (hW : (rest.map fun v => v.category).sum ≤ 8) (hk : k' < k) {v : Value} (hE : Pv M' k' [.ref a, x0, x1] S H v) (kk : Xq M k b1 b2 (pc + 3) L (v :: rest) S H Q) : Xq M k b1 b2 pc L (x1 :: x0 :: .ref a :: rest) S H Q := xq_callV_P (As := [x0, x1]) cl hg d hl hi hse hC hs rfl rfl hW hk hE kk
theorem xq_callV2H {C : String} {T : u_T} {N ci : Nat} {ty : Nat → FieldType} {x0 x1 : Value} {rest : List Value} (cl : xCl ci C T N ty) (hg : xGd M' 2) (d : decode (mC M) pc = .ok (.invokevirtual i, 3)) (hl : Cond.methodLink (mY M).cls i (mY M') ∈ lw_g) (hi : Cond.instanceMethod (mY M') ∈ lw_g) (hse : Cond.selects (mY M').cls (mY M') (mY M') ∈ lw_g) (hC : (mY M').cls = C) (hs : fS S a = (6, ci)) (hW : (rest.map fun v => v.category).sum ≤ 8) (hk : k' < k) {α : Type} {f : α → Value} {P : α → xH → Prop} (hE : Hv M' k' [.ref a, x0, x1] S H f P) (kk : ∀ x H1, P x H1 → Xq M k b1 b2 (pc + 3) L (f x :: rest) S H1 Q) : Xq M k b1 b2 pc L (x1 :: x0 :: .ref a :: rest) S H Q := xq_callV_H (As := [x0, x1]) cl hg d hl hi hse hC hs rfl rfl hW hk hE kk
theorem xq_callV2N {C : String} {T : u_T} {N ci : Nat} {ty : Nat → FieldType} {x0 x1 : Value} {rest : List Value} (cl : xCl ci C T N ty) (hg : xGd M' 2) (d : decode (mC M) pc = .ok (.invokevirtual i, 3)) (hl : Cond.methodLink (mY M).cls i (mY M') ∈ lw_g) (hi : Cond.instanceMethod (mY M') ∈ lw_g) (hse : Cond.selects (mY M').cls (mY M') (mY M') ∈ lw_g) (hC : (mY M').cls = C) (hs : fS S a = (6, ci)) (hW : (rest.map fun v => v.category).sum ≤ 8) (hk : k' < k) {P : xH → Prop} (hE : Nv M' k' [.ref a, x0, x1] S H P) (kk : ∀ H1, P H1 → Xq M k b1 b2 (pc + 3) L rest S H1 Q) : Xq M k b1 b2 pc L (x1 :: x0 :: .ref a :: rest) S H Q := xq_callV_N (As := [x0, x1]) cl hg d hl hi hse hC hs rfl rfl hW hk hE kk
theorem xq_callV3G {C : String} {T : u_T} {N ci : Nat} {ty : Nat → FieldType} {x0 x1 x2 : Value} {rest : List Value} (cl : xCl ci C T N ty) (hg : xGd M' 3) (d : decode (mC M) pc = .ok (.invokevirtual i, 3)) (hl : Cond.methodLink (mY M).cls i (mY M') ∈ lw_g) (hi : Cond.instanceMethod (mY M') ∈ lw_g) (hse : Cond.selects (mY M').cls (mY M') (mY M') ∈ lw_g) (hC : (mY M').cls = C) (hs : fS S a = (6, ci)) (hW : (rest.map fun v => v.category).sum ≤ 8) (hk : k' < k) {Q' : xR → Prop} (hE : Vq M' k' c1 c2 [.ref a, x0, x1, x2] S H Q') (kk : ∀ r S1 H1, Q' (r, S1, H1) → Xq M k b1 b2 (pc + 3) L (r.toList ++ rest) S1 H1 Q) : Xq M k (b1 + c1) (b2 + c2) pc L (x2 :: x1 :: x0 :: .ref a :: rest) S H Q := xq_callV_G (As := [x0, x1, x2]) cl hg d hl hi hse hC hs rfl rfl hW hk hE kk
theorem xq_callV3P {C : String} {T : u_T} {N ci : Nat} {ty : Nat → FieldType} {x0 x1 x2 : Value} {rest : List Value} (cl : xCl ci C T N ty) (hg : xGd M' 3) (d : decode (mC M) pc = .ok (.invokevirtual i, 3)) (hl : Cond.methodLink (mY M).cls i (mY M') ∈ lw_g) (hi : Cond.instanceMethod (mY M') ∈ lw_g) (hse : Cond.selects (mY M').cls (mY M') (mY M') ∈ lw_g) (hC : (mY M').cls = C) (hs : fS S a = (6, ci)) (hW : (rest.map fun v => v.category).sum ≤ 8) (hk : k' < k) {v : Value} (hE : Pv M' k' [.ref a, x0, x1, x2] S H v) (kk : Xq M k b1 b2 (pc + 3) L (v :: rest) S H Q) : Xq M k b1 b2 pc L (x2 :: x1 :: x0 :: .ref a :: rest) S H Q := xq_callV_P (As := [x0, x1, x2]) cl hg d hl hi hse hC hs rfl rfl hW hk hE kk
theorem xq_callV3H {C : String} {T : u_T} {N ci : Nat} {ty : Nat → FieldType} {x0 x1 x2 : Value} {rest : List Value} (cl : xCl ci C T N ty) (hg : xGd M' 3) (d : decode (mC M) pc = .ok (.invokevirtual i, 3)) (hl : Cond.methodLink (mY M).cls i (mY M') ∈ lw_g) (hi : Cond.instanceMethod (mY M') ∈ lw_g) (hse : Cond.selects (mY M').cls (mY M') (mY M') ∈ lw_g) (hC : (mY M').cls = C) (hs : fS S a = (6, ci)) (hW : (rest.map fun v => v.category).sum ≤ 8) (hk : k' < k) {α : Type} {f : α → Value} {P : α → xH → Prop} (hE : Hv M' k' [.ref a, x0, x1, x2] S H f P) (kk : ∀ x H1, P x H1 → Xq M k b1 b2 (pc + 3) L (f x :: rest) S H1 Q) : Xq M k b1 b2 pc L (x2 :: x1 :: x0 :: .ref a :: rest) S H Q := xq_callV_H (As := [x0, x1, x2]) cl hg d hl hi hse hC hs rfl rfl hW hk hE kk
theorem xq_callV3N {C : String} {T : u_T} {N ci : Nat} {ty : Nat → FieldType} {x0 x1 x2 : Value} {rest : List Value} (cl : xCl ci C T N ty) (hg : xGd M' 3) (d : decode (mC M) pc = .ok (.invokevirtual i, 3)) (hl : Cond.methodLink (mY M).cls i (mY M') ∈ lw_g) (hi : Cond.instanceMethod (mY M') ∈ lw_g) (hse : Cond.selects (mY M').cls (mY M') (mY M') ∈ lw_g) (hC : (mY M').cls = C) (hs : fS S a = (6, ci)) (hW : (rest.map fun v => v.category).sum ≤ 8) (hk : k' < k) {P : xH → Prop} (hE : Nv M' k' [.ref a, x0, x1, x2] S H P) (kk : ∀ H1, P H1 → Xq M k b1 b2 (pc + 3) L rest S H1 Q) : Xq M k b1 b2 pc L (x2 :: x1 :: x0 :: .ref a :: rest) S H Q := xq_callV_N (As := [x0, x1, x2]) cl hg d hl hi hse hC hs rfl rfl hW hk hE kk
theorem xq_callV4G {C : String} {T : u_T} {N ci : Nat} {ty : Nat → FieldType} {x0 x1 x2 x3 : Value} {rest : List Value} (cl : xCl ci C T N ty) (hg : xGd M' 4) (d : decode (mC M) pc = .ok (.invokevirtual i, 3)) (hl : Cond.methodLink (mY M).cls i (mY M') ∈ lw_g) (hi : Cond.instanceMethod (mY M') ∈ lw_g) (hse : Cond.selects (mY M').cls (mY M') (mY M') ∈ lw_g) (hC : (mY M').cls = C) (hs : fS S a = (6, ci)) (hW : (rest.map fun v => v.category).sum ≤ 8) (hk : k' < k) {Q' : xR → Prop} (hE : Vq M' k' c1 c2 [.ref a, x0, x1, x2, x3] S H Q') (kk : ∀ r S1 H1, Q' (r, S1, H1) → Xq M k b1 b2 (pc + 3) L (r.toList ++ rest) S1 H1 Q) : Xq M k (b1 + c1) (b2 + c2) pc L (x3 :: x2 :: x1 :: x0 :: .ref a :: rest) S H Q := xq_callV_G (As := [x0, x1, x2, x3]) cl hg d hl hi hse hC hs rfl rfl hW hk hE kk
theorem xq_callV4P {C : String} {T : u_T} {N ci : Nat} {ty : Nat → FieldType} {x0 x1 x2 x3 : Value} {rest : List Value} (cl : xCl ci C T N ty) (hg : xGd M' 4) (d : decode (mC M) pc = .ok (.invokevirtual i, 3)) (hl : Cond.methodLink (mY M).cls i (mY M') ∈ lw_g) (hi : Cond.instanceMethod (mY M') ∈ lw_g) (hse : Cond.selects (mY M').cls (mY M') (mY M') ∈ lw_g) (hC : (mY M').cls = C) (hs : fS S a = (6, ci)) (hW : (rest.map fun v => v.category).sum ≤ 8) (hk : k' < k) {v : Value} (hE : Pv M' k' [.ref a, x0, x1, x2, x3] S H v) (kk : Xq M k b1 b2 (pc + 3) L (v :: rest) S H Q) : Xq M k b1 b2 pc L (x3 :: x2 :: x1 :: x0 :: .ref a :: rest) S H Q := xq_callV_P (As := [x0, x1, x2, x3]) cl hg d hl hi hse hC hs rfl rfl hW hk hE kk
theorem xq_callV4H {C : String} {T : u_T} {N ci : Nat} {ty : Nat → FieldType} {x0 x1 x2 x3 : Value} {rest : List Value} (cl : xCl ci C T N ty) (hg : xGd M' 4) (d : decode (mC M) pc = .ok (.invokevirtual i, 3)) (hl : Cond.methodLink (mY M).cls i (mY M') ∈ lw_g) (hi : Cond.instanceMethod (mY M') ∈ lw_g) (hse : Cond.selects (mY M').cls (mY M') (mY M') ∈ lw_g) (hC : (mY M').cls = C) (hs : fS S a = (6, ci)) (hW : (rest.map fun v => v.category).sum ≤ 8) (hk : k' < k) {α : Type} {f : α → Value} {P : α → xH → Prop} (hE : Hv M' k' [.ref a, x0, x1, x2, x3] S H f P) (kk : ∀ x H1, P x H1 → Xq M k b1 b2 (pc + 3) L (f x :: rest) S H1 Q) : Xq M k b1 b2 pc L (x3 :: x2 :: x1 :: x0 :: .ref a :: rest) S H Q := xq_callV_H (As := [x0, x1, x2, x3]) cl hg d hl hi hse hC hs rfl rfl hW hk hE kk
theorem xq_callV4N {C : String} {T : u_T} {N ci : Nat} {ty : Nat → FieldType} {x0 x1 x2 x3 : Value} {rest : List Value} (cl : xCl ci C T N ty) (hg : xGd M' 4) (d : decode (mC M) pc = .ok (.invokevirtual i, 3)) (hl : Cond.methodLink (mY M).cls i (mY M') ∈ lw_g) (hi : Cond.instanceMethod (mY M') ∈ lw_g) (hse : Cond.selects (mY M').cls (mY M') (mY M') ∈ lw_g) (hC : (mY M').cls = C) (hs : fS S a = (6, ci)) (hW : (rest.map fun v => v.category).sum ≤ 8) (hk : k' < k) {P : xH → Prop} (hE : Nv M' k' [.ref a, x0, x1, x2, x3] S H P) (kk : ∀ H1, P H1 → Xq M k b1 b2 (pc + 3) L rest S H1 Q) : Xq M k b1 b2 pc L (x3 :: x2 :: x1 :: x0 :: .ref a :: rest) S H Q := xq_callV_N (As := [x0, x1, x2, x3]) cl hg d hl hi hse hC hs rfl rfl hW hk hE kk
theorem xq_callV5G {C : String} {T : u_T} {N ci : Nat} {ty : Nat → FieldType} {x0 x1 x2 x3 x4 : Value} {rest : List Value} (cl : xCl ci C T N ty) (hg : xGd M' 5) (d : decode (mC M) pc = .ok (.invokevirtual i, 3)) (hl : Cond.methodLink (mY M).cls i (mY M') ∈ lw_g) (hi : Cond.instanceMethod (mY M') ∈ lw_g) (hse : Cond.selects (mY M').cls (mY M') (mY M') ∈ lw_g) (hC : (mY M').cls = C) (hs : fS S a = (6, ci)) (hW : (rest.map fun v => v.category).sum ≤ 8) (hk : k' < k) {Q' : xR → Prop} (hE : Vq M' k' c1 c2 [.ref a, x0, x1, x2, x3, x4] S H Q') (kk : ∀ r S1 H1, Q' (r, S1, H1) → Xq M k b1 b2 (pc + 3) L (r.toList ++ rest) S1 H1 Q) : Xq M k (b1 + c1) (b2 + c2) pc L (x4 :: x3 :: x2 :: x1 :: x0 :: .ref a :: rest) S H Q := xq_callV_G (As := [x0, x1, x2, x3, x4]) cl hg d hl hi hse hC hs rfl rfl hW hk hE kk
theorem xq_callV5P {C : String} {T : u_T} {N ci : Nat} {ty : Nat → FieldType} {x0 x1 x2 x3 x4 : Value} {rest : List Value} (cl : xCl ci C T N ty) (hg : xGd M' 5) (d : decode (mC M) pc = .ok (.invokevirtual i, 3)) (hl : Cond.methodLink (mY M).cls i (mY M') ∈ lw_g) (hi : Cond.instanceMethod (mY M') ∈ lw_g) (hse : Cond.selects (mY M').cls (mY M') (mY M') ∈ lw_g) (hC : (mY M').cls = C) (hs : fS S a = (6, ci)) (hW : (rest.map fun v => v.category).sum ≤ 8) (hk : k' < k) {v : Value} (hE : Pv M' k' [.ref a, x0, x1, x2, x3, x4] S H v) (kk : Xq M k b1 b2 (pc + 3) L (v :: rest) S H Q) : Xq M k b1 b2 pc L (x4 :: x3 :: x2 :: x1 :: x0 :: .ref a :: rest) S H Q := xq_callV_P (As := [x0, x1, x2, x3, x4]) cl hg d hl hi hse hC hs rfl rfl hW hk hE kk
theorem xq_callV5H {C : String} {T : u_T} {N ci : Nat} {ty : Nat → FieldType} {x0 x1 x2 x3 x4 : Value} {rest : List Value} (cl : xCl ci C T N ty) (hg : xGd M' 5) (d : decode (mC M) pc = .ok (.invokevirtual i, 3)) (hl : Cond.methodLink (mY M).cls i (mY M') ∈ lw_g) (hi : Cond.instanceMethod (mY M') ∈ lw_g) (hse : Cond.selects (mY M').cls (mY M') (mY M') ∈ lw_g) (hC : (mY M').cls = C) (hs : fS S a = (6, ci)) (hW : (rest.map fun v => v.category).sum ≤ 8) (hk : k' < k) {α : Type} {f : α → Value} {P : α → xH → Prop} (hE : Hv M' k' [.ref a, x0, x1, x2, x3, x4] S H f P) (kk : ∀ x H1, P x H1 → Xq M k b1 b2 (pc + 3) L (f x :: rest) S H1 Q) : Xq M k b1 b2 pc L (x4 :: x3 :: x2 :: x1 :: x0 :: .ref a :: rest) S H Q := xq_callV_H (As := [x0, x1, x2, x3, x4]) cl hg d hl hi hse hC hs rfl rfl hW hk hE kk
theorem xq_callV5N {C : String} {T : u_T} {N ci : Nat} {ty : Nat → FieldType} {x0 x1 x2 x3 x4 : Value} {rest : List Value} (cl : xCl ci C T N ty) (hg : xGd M' 5) (d : decode (mC M) pc = .ok (.invokevirtual i, 3)) (hl : Cond.methodLink (mY M).cls i (mY M') ∈ lw_g) (hi : Cond.instanceMethod (mY M') ∈ lw_g) (hse : Cond.selects (mY M').cls (mY M') (mY M') ∈ lw_g) (hC : (mY M').cls = C) (hs : fS S a = (6, ci)) (hW : (rest.map fun v => v.category).sum ≤ 8) (hk : k' < k) {P : xH → Prop} (hE : Nv M' k' [.ref a, x0, x1, x2, x3, x4] S H P) (kk : ∀ H1, P H1 → Xq M k b1 b2 (pc + 3) L rest S H1 Q) : Xq M k b1 b2 pc L (x4 :: x3 :: x2 :: x1 :: x0 :: .ref a :: rest) S H Q := xq_callV_N (As := [x0, x1, x2, x3, x4]) cl hg d hl hi hse hC hs rfl rfl hW hk hE kk
theorem xq_callS0G {rest : List Value} (hg : xGd M' 0) (d : decode (mC M) pc = .ok (.invokestatic i, 3)) (hl : Cond.methodLink (mY M).cls i (mY M') ∈ lw_g) (hi : Cond.static (mY M') ∈ lw_g) (hW : (rest.map fun v => v.category).sum ≤ 8) (hk : k' < k) {Q' : xR → Prop} (hE : Vq M' k' c1 c2 [] S H Q') (kk : ∀ r S1 H1, Q' (r, S1, H1) → Xq M k b1 b2 (pc + 3) L (r.toList ++ rest) S1 H1 Q) : Xq M k (b1 + c1) (b2 + c2) pc L (rest) S H Q := xq_callS_G (As := []) hg d hl hi rfl rfl hW hk hE kk
theorem xq_callS0P {rest : List Value} (hg : xGd M' 0) (d : decode (mC M) pc = .ok (.invokestatic i, 3)) (hl : Cond.methodLink (mY M).cls i (mY M') ∈ lw_g) (hi : Cond.static (mY M') ∈ lw_g) (hW : (rest.map fun v => v.category).sum ≤ 8) (hk : k' < k) {v : Value} (hE : Pv M' k' [] S H v) (kk : Xq M k b1 b2 (pc + 3) L (v :: rest) S H Q) : Xq M k b1 b2 pc L (rest) S H Q := xq_callS_P (As := []) hg d hl hi rfl rfl hW hk hE kk
theorem xq_callS0H {rest : List Value} (hg : xGd M' 0) (d : decode (mC M) pc = .ok (.invokestatic i, 3)) (hl : Cond.methodLink (mY M).cls i (mY M') ∈ lw_g) (hi : Cond.static (mY M') ∈ lw_g) (hW : (rest.map fun v => v.category).sum ≤ 8) (hk : k' < k) {α : Type} {f : α → Value} {P : α → xH → Prop} (hE : Hv M' k' [] S H f P) (kk : ∀ x H1, P x H1 → Xq M k b1 b2 (pc + 3) L (f x :: rest) S H1 Q) : Xq M k b1 b2 pc L (rest) S H Q := xq_callS_H (As := []) hg d hl hi rfl rfl hW hk hE kk
theorem xq_callS0N {rest : List Value} (hg : xGd M' 0) (d : decode (mC M) pc = .ok (.invokestatic i, 3)) (hl : Cond.methodLink (mY M).cls i (mY M') ∈ lw_g) (hi : Cond.static (mY M') ∈ lw_g) (hW : (rest.map fun v => v.category).sum ≤ 8) (hk : k' < k) {P : xH → Prop} (hE : Nv M' k' [] S H P) (kk : ∀ H1, P H1 → Xq M k b1 b2 (pc + 3) L rest S H1 Q) : Xq M k b1 b2 pc L (rest) S H Q := xq_callS_N (As := []) hg d hl hi rfl rfl hW hk hE kk
theorem xq_callS1G {x0 : Value} {rest : List Value} (hg : xGd M' 1) (d : decode (mC M) pc = .ok (.invokestatic i, 3)) (hl : Cond.methodLink (mY M).cls i (mY M') ∈ lw_g) (hi : Cond.static (mY M') ∈ lw_g) (hW : (rest.map fun v => v.category).sum ≤ 8) (hk : k' < k) {Q' : xR → Prop} (hE : Vq M' k' c1 c2 [x0] S H Q') (kk : ∀ r S1 H1, Q' (r, S1, H1) → Xq M k b1 b2 (pc + 3) L (r.toList ++ rest) S1 H1 Q) : Xq M k (b1 + c1) (b2 + c2) pc L (x0 :: rest) S H Q := xq_callS_G (As := [x0]) hg d hl hi rfl rfl hW hk hE kk
theorem xq_callS1P {x0 : Value} {rest : List Value} (hg : xGd M' 1) (d : decode (mC M) pc = .ok (.invokestatic i, 3)) (hl : Cond.methodLink (mY M).cls i (mY M') ∈ lw_g) (hi : Cond.static (mY M') ∈ lw_g) (hW : (rest.map fun v => v.category).sum ≤ 8) (hk : k' < k) {v : Value} (hE : Pv M' k' [x0] S H v) (kk : Xq M k b1 b2 (pc + 3) L (v :: rest) S H Q) : Xq M k b1 b2 pc L (x0 :: rest) S H Q := xq_callS_P (As := [x0]) hg d hl hi rfl rfl hW hk hE kk
theorem xq_callS1H {x0 : Value} {rest : List Value} (hg : xGd M' 1) (d : decode (mC M) pc = .ok (.invokestatic i, 3)) (hl : Cond.methodLink (mY M).cls i (mY M') ∈ lw_g) (hi : Cond.static (mY M') ∈ lw_g) (hW : (rest.map fun v => v.category).sum ≤ 8) (hk : k' < k) {α : Type} {f : α → Value} {P : α → xH → Prop} (hE : Hv M' k' [x0] S H f P) (kk : ∀ x H1, P x H1 → Xq M k b1 b2 (pc + 3) L (f x :: rest) S H1 Q) : Xq M k b1 b2 pc L (x0 :: rest) S H Q := xq_callS_H (As := [x0]) hg d hl hi rfl rfl hW hk hE kk
theorem xq_callS1N {x0 : Value} {rest : List Value} (hg : xGd M' 1) (d : decode (mC M) pc = .ok (.invokestatic i, 3)) (hl : Cond.methodLink (mY M).cls i (mY M') ∈ lw_g) (hi : Cond.static (mY M') ∈ lw_g) (hW : (rest.map fun v => v.category).sum ≤ 8) (hk : k' < k) {P : xH → Prop} (hE : Nv M' k' [x0] S H P) (kk : ∀ H1, P H1 → Xq M k b1 b2 (pc + 3) L rest S H1 Q) : Xq M k b1 b2 pc L (x0 :: rest) S H Q := xq_callS_N (As := [x0]) hg d hl hi rfl rfl hW hk hE kk
theorem xq_callS2G {x0 x1 : Value} {rest : List Value} (hg : xGd M' 2) (d : decode (mC M) pc = .ok (.invokestatic i, 3)) (hl : Cond.methodLink (mY M).cls i (mY M') ∈ lw_g) (hi : Cond.static (mY M') ∈ lw_g) (hW : (rest.map fun v => v.category).sum ≤ 8) (hk : k' < k) {Q' : xR → Prop} (hE : Vq M' k' c1 c2 [x0, x1] S H Q') (kk : ∀ r S1 H1, Q' (r, S1, H1) → Xq M k b1 b2 (pc + 3) L (r.toList ++ rest) S1 H1 Q) : Xq M k (b1 + c1) (b2 + c2) pc L (x1 :: x0 :: rest) S H Q := xq_callS_G (As := [x0, x1]) hg d hl hi rfl rfl hW hk hE kk
theorem xq_callS2P {x0 x1 : Value} {rest : List Value} (hg : xGd M' 2) (d : decode (mC M) pc = .ok (.invokestatic i, 3)) (hl : Cond.methodLink (mY M).cls i (mY M') ∈ lw_g) (hi : Cond.static (mY M') ∈ lw_g) (hW : (rest.map fun v => v.category).sum ≤ 8) (hk : k' < k) {v : Value} (hE : Pv M' k' [x0, x1] S H v) (kk : Xq M k b1 b2 (pc + 3) L (v :: rest) S H Q) : Xq M k b1 b2 pc L (x1 :: x0 :: rest) S H Q := xq_callS_P (As := [x0, x1]) hg d hl hi rfl rfl hW hk hE kk
theorem xq_callS2H {x0 x1 : Value} {rest : List Value} (hg : xGd M' 2) (d : decode (mC M) pc = .ok (.invokestatic i, 3)) (hl : Cond.methodLink (mY M).cls i (mY M') ∈ lw_g) (hi : Cond.static (mY M') ∈ lw_g) (hW : (rest.map fun v => v.category).sum ≤ 8) (hk : k' < k) {α : Type} {f : α → Value} {P : α → xH → Prop} (hE : Hv M' k' [x0, x1] S H f P) (kk : ∀ x H1, P x H1 → Xq M k b1 b2 (pc + 3) L (f x :: rest) S H1 Q) : Xq M k b1 b2 pc L (x1 :: x0 :: rest) S H Q := xq_callS_H (As := [x0, x1]) hg d hl hi rfl rfl hW hk hE kk
theorem xq_callS2N {x0 x1 : Value} {rest : List Value} (hg : xGd M' 2) (d : decode (mC M) pc = .ok (.invokestatic i, 3)) (hl : Cond.methodLink (mY M).cls i (mY M') ∈ lw_g) (hi : Cond.static (mY M') ∈ lw_g) (hW : (rest.map fun v => v.category).sum ≤ 8) (hk : k' < k) {P : xH → Prop} (hE : Nv M' k' [x0, x1] S H P) (kk : ∀ H1, P H1 → Xq M k b1 b2 (pc + 3) L rest S H1 Q) : Xq M k b1 b2 pc L (x1 :: x0 :: rest) S H Q := xq_callS_N (As := [x0, x1]) hg d hl hi rfl rfl hW hk hE kk
theorem xq_callS3G {x0 x1 x2 : Value} {rest : List Value} (hg : xGd M' 3) (d : decode (mC M) pc = .ok (.invokestatic i, 3)) (hl : Cond.methodLink (mY M).cls i (mY M') ∈ lw_g) (hi : Cond.static (mY M') ∈ lw_g) (hW : (rest.map fun v => v.category).sum ≤ 8) (hk : k' < k) {Q' : xR → Prop} (hE : Vq M' k' c1 c2 [x0, x1, x2] S H Q') (kk : ∀ r S1 H1, Q' (r, S1, H1) → Xq M k b1 b2 (pc + 3) L (r.toList ++ rest) S1 H1 Q) : Xq M k (b1 + c1) (b2 + c2) pc L (x2 :: x1 :: x0 :: rest) S H Q := xq_callS_G (As := [x0, x1, x2]) hg d hl hi rfl rfl hW hk hE kk
theorem xq_callS3P {x0 x1 x2 : Value} {rest : List Value} (hg : xGd M' 3) (d : decode (mC M) pc = .ok (.invokestatic i, 3)) (hl : Cond.methodLink (mY M).cls i (mY M') ∈ lw_g) (hi : Cond.static (mY M') ∈ lw_g) (hW : (rest.map fun v => v.category).sum ≤ 8) (hk : k' < k) {v : Value} (hE : Pv M' k' [x0, x1, x2] S H v) (kk : Xq M k b1 b2 (pc + 3) L (v :: rest) S H Q) : Xq M k b1 b2 pc L (x2 :: x1 :: x0 :: rest) S H Q := xq_callS_P (As := [x0, x1, x2]) hg d hl hi rfl rfl hW hk hE kk
theorem xq_callS3H {x0 x1 x2 : Value} {rest : List Value} (hg : xGd M' 3) (d : decode (mC M) pc = .ok (.invokestatic i, 3)) (hl : Cond.methodLink (mY M).cls i (mY M') ∈ lw_g) (hi : Cond.static (mY M') ∈ lw_g) (hW : (rest.map fun v => v.category).sum ≤ 8) (hk : k' < k) {α : Type} {f : α → Value} {P : α → xH → Prop} (hE : Hv M' k' [x0, x1, x2] S H f P) (kk : ∀ x H1, P x H1 → Xq M k b1 b2 (pc + 3) L (f x :: rest) S H1 Q) : Xq M k b1 b2 pc L (x2 :: x1 :: x0 :: rest) S H Q := xq_callS_H (As := [x0, x1, x2]) hg d hl hi rfl rfl hW hk hE kk
theorem xq_callS3N {x0 x1 x2 : Value} {rest : List Value} (hg : xGd M' 3) (d : decode (mC M) pc = .ok (.invokestatic i, 3)) (hl : Cond.methodLink (mY M).cls i (mY M') ∈ lw_g) (hi : Cond.static (mY M') ∈ lw_g) (hW : (rest.map fun v => v.category).sum ≤ 8) (hk : k' < k) {P : xH → Prop} (hE : Nv M' k' [x0, x1, x2] S H P) (kk : ∀ H1, P H1 → Xq M k b1 b2 (pc + 3) L rest S H1 Q) : Xq M k b1 b2 pc L (x2 :: x1 :: x0 :: rest) S H Q := xq_callS_N (As := [x0, x1, x2]) hg d hl hi rfl rfl hW hk hE kk
theorem xq_callS4G {x0 x1 x2 x3 : Value} {rest : List Value} (hg : xGd M' 4) (d : decode (mC M) pc = .ok (.invokestatic i, 3)) (hl : Cond.methodLink (mY M).cls i (mY M') ∈ lw_g) (hi : Cond.static (mY M') ∈ lw_g) (hW : (rest.map fun v => v.category).sum ≤ 8) (hk : k' < k) {Q' : xR → Prop} (hE : Vq M' k' c1 c2 [x0, x1, x2, x3] S H Q') (kk : ∀ r S1 H1, Q' (r, S1, H1) → Xq M k b1 b2 (pc + 3) L (r.toList ++ rest) S1 H1 Q) : Xq M k (b1 + c1) (b2 + c2) pc L (x3 :: x2 :: x1 :: x0 :: rest) S H Q := xq_callS_G (As := [x0, x1, x2, x3]) hg d hl hi rfl rfl hW hk hE kk
theorem xq_callS4P {x0 x1 x2 x3 : Value} {rest : List Value} (hg : xGd M' 4) (d : decode (mC M) pc = .ok (.invokestatic i, 3)) (hl : Cond.methodLink (mY M).cls i (mY M') ∈ lw_g) (hi : Cond.static (mY M') ∈ lw_g) (hW : (rest.map fun v => v.category).sum ≤ 8) (hk : k' < k) {v : Value} (hE : Pv M' k' [x0, x1, x2, x3] S H v) (kk : Xq M k b1 b2 (pc + 3) L (v :: rest) S H Q) : Xq M k b1 b2 pc L (x3 :: x2 :: x1 :: x0 :: rest) S H Q := xq_callS_P (As := [x0, x1, x2, x3]) hg d hl hi rfl rfl hW hk hE kk
theorem xq_callS4H {x0 x1 x2 x3 : Value} {rest : List Value} (hg : xGd M' 4) (d : decode (mC M) pc = .ok (.invokestatic i, 3)) (hl : Cond.methodLink (mY M).cls i (mY M') ∈ lw_g) (hi : Cond.static (mY M') ∈ lw_g) (hW : (rest.map fun v => v.category).sum ≤ 8) (hk : k' < k) {α : Type} {f : α → Value} {P : α → xH → Prop} (hE : Hv M' k' [x0, x1, x2, x3] S H f P) (kk : ∀ x H1, P x H1 → Xq M k b1 b2 (pc + 3) L (f x :: rest) S H1 Q) : Xq M k b1 b2 pc L (x3 :: x2 :: x1 :: x0 :: rest) S H Q := xq_callS_H (As := [x0, x1, x2, x3]) hg d hl hi rfl rfl hW hk hE kk
theorem xq_callS4N {x0 x1 x2 x3 : Value} {rest : List Value} (hg : xGd M' 4) (d : decode (mC M) pc = .ok (.invokestatic i, 3)) (hl : Cond.methodLink (mY M).cls i (mY M') ∈ lw_g) (hi : Cond.static (mY M') ∈ lw_g) (hW : (rest.map fun v => v.category).sum ≤ 8) (hk : k' < k) {P : xH → Prop} (hE : Nv M' k' [x0, x1, x2, x3] S H P) (kk : ∀ H1, P H1 → Xq M k b1 b2 (pc + 3) L rest S H1 Q) : Xq M k b1 b2 pc L (x3 :: x2 :: x1 :: x0 :: rest) S H Q := xq_callS_N (As := [x0, x1, x2, x3]) hg d hl hi rfl rfl hW hk hE kk
theorem xq_callI0G {rest : List Value} (hg : xGd M' 0) (d : decode (mC M) pc = .ok (.invokespecial i, 3)) (hl : Cond.methodLink (mY M).cls i (mY M') ∈ lw_g) (hi : Cond.instanceMethod (mY M') ∈ lw_g) (hnm : (mY M').name = "<init>") (hmt : mT M' = none) (hW : (rest.map fun v => v.category).sum ≤ 8) (hk : k' < k) {Q' : xR → Prop} (hE : Vq M' k' c1 c2 [.ref a] S H Q') (kk : ∀ r S1 H1, Q' (r, S1, H1) → Xq M k b1 b2 (pc + 3) L (r.toList ++ rest) S1 H1 Q) : Xq M k (b1 + c1) (b2 + c2) pc L (.ref a :: rest) S H Q := xq_callI_G (As := []) hg d hl hi hnm hmt rfl rfl hW hk hE kk
theorem xq_callI0P {rest : List Value} (hg : xGd M' 0) (d : decode (mC M) pc = .ok (.invokespecial i, 3)) (hl : Cond.methodLink (mY M).cls i (mY M') ∈ lw_g) (hi : Cond.instanceMethod (mY M') ∈ lw_g) (hnm : (mY M').name = "<init>") (hmt : mT M' = none) (hW : (rest.map fun v => v.category).sum ≤ 8) (hk : k' < k) {v : Value} (hE : Pv M' k' [.ref a] S H v) (kk : Xq M k b1 b2 (pc + 3) L (v :: rest) S H Q) : Xq M k b1 b2 pc L (.ref a :: rest) S H Q := xq_callI_P (As := []) hg d hl hi hnm hmt rfl rfl hW hk hE kk
theorem xq_callI0H {rest : List Value} (hg : xGd M' 0) (d : decode (mC M) pc = .ok (.invokespecial i, 3)) (hl : Cond.methodLink (mY M).cls i (mY M') ∈ lw_g) (hi : Cond.instanceMethod (mY M') ∈ lw_g) (hnm : (mY M').name = "<init>") (hmt : mT M' = none) (hW : (rest.map fun v => v.category).sum ≤ 8) (hk : k' < k) {α : Type} {f : α → Value} {P : α → xH → Prop} (hE : Hv M' k' [.ref a] S H f P) (kk : ∀ x H1, P x H1 → Xq M k b1 b2 (pc + 3) L (f x :: rest) S H1 Q) : Xq M k b1 b2 pc L (.ref a :: rest) S H Q := xq_callI_H (As := []) hg d hl hi hnm hmt rfl rfl hW hk hE kk
theorem xq_callI0N {rest : List Value} (hg : xGd M' 0) (d : decode (mC M) pc = .ok (.invokespecial i, 3)) (hl : Cond.methodLink (mY M).cls i (mY M') ∈ lw_g) (hi : Cond.instanceMethod (mY M') ∈ lw_g) (hnm : (mY M').name = "<init>") (hmt : mT M' = none) (hW : (rest.map fun v => v.category).sum ≤ 8) (hk : k' < k) {P : xH → Prop} (hE : Nv M' k' [.ref a] S H P) (kk : ∀ H1, P H1 → Xq M k b1 b2 (pc + 3) L rest S H1 Q) : Xq M k b1 b2 pc L (.ref a :: rest) S H Q := xq_callI_N (As := []) hg d hl hi hnm hmt rfl rfl hW hk hE kk
theorem xq_callI1G {x0 : Value} {rest : List Value} (hg : xGd M' 1) (d : decode (mC M) pc = .ok (.invokespecial i, 3)) (hl : Cond.methodLink (mY M).cls i (mY M') ∈ lw_g) (hi : Cond.instanceMethod (mY M') ∈ lw_g) (hnm : (mY M').name = "<init>") (hmt : mT M' = none) (hW : (rest.map fun v => v.category).sum ≤ 8) (hk : k' < k) {Q' : xR → Prop} (hE : Vq M' k' c1 c2 [.ref a, x0] S H Q') (kk : ∀ r S1 H1, Q' (r, S1, H1) → Xq M k b1 b2 (pc + 3) L (r.toList ++ rest) S1 H1 Q) : Xq M k (b1 + c1) (b2 + c2) pc L (x0 :: .ref a :: rest) S H Q := xq_callI_G (As := [x0]) hg d hl hi hnm hmt rfl rfl hW hk hE kk
theorem xq_callI1P {x0 : Value} {rest : List Value} (hg : xGd M' 1) (d : decode (mC M) pc = .ok (.invokespecial i, 3)) (hl : Cond.methodLink (mY M).cls i (mY M') ∈ lw_g) (hi : Cond.instanceMethod (mY M') ∈ lw_g) (hnm : (mY M').name = "<init>") (hmt : mT M' = none) (hW : (rest.map fun v => v.category).sum ≤ 8) (hk : k' < k) {v : Value} (hE : Pv M' k' [.ref a, x0] S H v) (kk : Xq M k b1 b2 (pc + 3) L (v :: rest) S H Q) : Xq M k b1 b2 pc L (x0 :: .ref a :: rest) S H Q := xq_callI_P (As := [x0]) hg d hl hi hnm hmt rfl rfl hW hk hE kk
theorem xq_callI1H {x0 : Value} {rest : List Value} (hg : xGd M' 1) (d : decode (mC M) pc = .ok (.invokespecial i, 3)) (hl : Cond.methodLink (mY M).cls i (mY M') ∈ lw_g) (hi : Cond.instanceMethod (mY M') ∈ lw_g) (hnm : (mY M').name = "<init>") (hmt : mT M' = none) (hW : (rest.map fun v => v.category).sum ≤ 8) (hk : k' < k) {α : Type} {f : α → Value} {P : α → xH → Prop} (hE : Hv M' k' [.ref a, x0] S H f P) (kk : ∀ x H1, P x H1 → Xq M k b1 b2 (pc + 3) L (f x :: rest) S H1 Q) : Xq M k b1 b2 pc L (x0 :: .ref a :: rest) S H Q := xq_callI_H (As := [x0]) hg d hl hi hnm hmt rfl rfl hW hk hE kk
theorem xq_callI1N {x0 : Value} {rest : List Value} (hg : xGd M' 1) (d : decode (mC M) pc = .ok (.invokespecial i, 3)) (hl : Cond.methodLink (mY M).cls i (mY M') ∈ lw_g) (hi : Cond.instanceMethod (mY M') ∈ lw_g) (hnm : (mY M').name = "<init>") (hmt : mT M' = none) (hW : (rest.map fun v => v.category).sum ≤ 8) (hk : k' < k) {P : xH → Prop} (hE : Nv M' k' [.ref a, x0] S H P) (kk : ∀ H1, P H1 → Xq M k b1 b2 (pc + 3) L rest S H1 Q) : Xq M k b1 b2 pc L (x0 :: .ref a :: rest) S H Q := xq_callI_N (As := [x0]) hg d hl hi hnm hmt rfl rfl hW hk hE kk
theorem xq_callI2G {x0 x1 : Value} {rest : List Value} (hg : xGd M' 2) (d : decode (mC M) pc = .ok (.invokespecial i, 3)) (hl : Cond.methodLink (mY M).cls i (mY M') ∈ lw_g) (hi : Cond.instanceMethod (mY M') ∈ lw_g) (hnm : (mY M').name = "<init>") (hmt : mT M' = none) (hW : (rest.map fun v => v.category).sum ≤ 8) (hk : k' < k) {Q' : xR → Prop} (hE : Vq M' k' c1 c2 [.ref a, x0, x1] S H Q') (kk : ∀ r S1 H1, Q' (r, S1, H1) → Xq M k b1 b2 (pc + 3) L (r.toList ++ rest) S1 H1 Q) : Xq M k (b1 + c1) (b2 + c2) pc L (x1 :: x0 :: .ref a :: rest) S H Q := xq_callI_G (As := [x0, x1]) hg d hl hi hnm hmt rfl rfl hW hk hE kk
theorem xq_callI2P {x0 x1 : Value} {rest : List Value} (hg : xGd M' 2) (d : decode (mC M) pc = .ok (.invokespecial i, 3)) (hl : Cond.methodLink (mY M).cls i (mY M') ∈ lw_g) (hi : Cond.instanceMethod (mY M') ∈ lw_g) (hnm : (mY M').name = "<init>") (hmt : mT M' = none) (hW : (rest.map fun v => v.category).sum ≤ 8) (hk : k' < k) {v : Value} (hE : Pv M' k' [.ref a, x0, x1] S H v) (kk : Xq M k b1 b2 (pc + 3) L (v :: rest) S H Q) : Xq M k b1 b2 pc L (x1 :: x0 :: .ref a :: rest) S H Q := xq_callI_P (As := [x0, x1]) hg d hl hi hnm hmt rfl rfl hW hk hE kk
theorem xq_callI2H {x0 x1 : Value} {rest : List Value} (hg : xGd M' 2) (d : decode (mC M) pc = .ok (.invokespecial i, 3)) (hl : Cond.methodLink (mY M).cls i (mY M') ∈ lw_g) (hi : Cond.instanceMethod (mY M') ∈ lw_g) (hnm : (mY M').name = "<init>") (hmt : mT M' = none) (hW : (rest.map fun v => v.category).sum ≤ 8) (hk : k' < k) {α : Type} {f : α → Value} {P : α → xH → Prop} (hE : Hv M' k' [.ref a, x0, x1] S H f P) (kk : ∀ x H1, P x H1 → Xq M k b1 b2 (pc + 3) L (f x :: rest) S H1 Q) : Xq M k b1 b2 pc L (x1 :: x0 :: .ref a :: rest) S H Q := xq_callI_H (As := [x0, x1]) hg d hl hi hnm hmt rfl rfl hW hk hE kk
theorem xq_callI2N {x0 x1 : Value} {rest : List Value} (hg : xGd M' 2) (d : decode (mC M) pc = .ok (.invokespecial i, 3)) (hl : Cond.methodLink (mY M).cls i (mY M') ∈ lw_g) (hi : Cond.instanceMethod (mY M') ∈ lw_g) (hnm : (mY M').name = "<init>") (hmt : mT M' = none) (hW : (rest.map fun v => v.category).sum ≤ 8) (hk : k' < k) {P : xH → Prop} (hE : Nv M' k' [.ref a, x0, x1] S H P) (kk : ∀ H1, P H1 → Xq M k b1 b2 (pc + 3) L rest S H1 Q) : Xq M k b1 b2 pc L (x1 :: x0 :: .ref a :: rest) S H Q := xq_callI_N (As := [x0, x1]) hg d hl hi hnm hmt rfl rfl hW hk hE kk
theorem xq_callI3G {x0 x1 x2 : Value} {rest : List Value} (hg : xGd M' 3) (d : decode (mC M) pc = .ok (.invokespecial i, 3)) (hl : Cond.methodLink (mY M).cls i (mY M') ∈ lw_g) (hi : Cond.instanceMethod (mY M') ∈ lw_g) (hnm : (mY M').name = "<init>") (hmt : mT M' = none) (hW : (rest.map fun v => v.category).sum ≤ 8) (hk : k' < k) {Q' : xR → Prop} (hE : Vq M' k' c1 c2 [.ref a, x0, x1, x2] S H Q') (kk : ∀ r S1 H1, Q' (r, S1, H1) → Xq M k b1 b2 (pc + 3) L (r.toList ++ rest) S1 H1 Q) : Xq M k (b1 + c1) (b2 + c2) pc L (x2 :: x1 :: x0 :: .ref a :: rest) S H Q := xq_callI_G (As := [x0, x1, x2]) hg d hl hi hnm hmt rfl rfl hW hk hE kk
theorem xq_callI3P {x0 x1 x2 : Value} {rest : List Value} (hg : xGd M' 3) (d : decode (mC M) pc = .ok (.invokespecial i, 3)) (hl : Cond.methodLink (mY M).cls i (mY M') ∈ lw_g) (hi : Cond.instanceMethod (mY M') ∈ lw_g) (hnm : (mY M').name = "<init>") (hmt : mT M' = none) (hW : (rest.map fun v => v.category).sum ≤ 8) (hk : k' < k) {v : Value} (hE : Pv M' k' [.ref a, x0, x1, x2] S H v) (kk : Xq M k b1 b2 (pc + 3) L (v :: rest) S H Q) : Xq M k b1 b2 pc L (x2 :: x1 :: x0 :: .ref a :: rest) S H Q := xq_callI_P (As := [x0, x1, x2]) hg d hl hi hnm hmt rfl rfl hW hk hE kk
theorem xq_callI3H {x0 x1 x2 : Value} {rest : List Value} (hg : xGd M' 3) (d : decode (mC M) pc = .ok (.invokespecial i, 3)) (hl : Cond.methodLink (mY M).cls i (mY M') ∈ lw_g) (hi : Cond.instanceMethod (mY M') ∈ lw_g) (hnm : (mY M').name = "<init>") (hmt : mT M' = none) (hW : (rest.map fun v => v.category).sum ≤ 8) (hk : k' < k) {α : Type} {f : α → Value} {P : α → xH → Prop} (hE : Hv M' k' [.ref a, x0, x1, x2] S H f P) (kk : ∀ x H1, P x H1 → Xq M k b1 b2 (pc + 3) L (f x :: rest) S H1 Q) : Xq M k b1 b2 pc L (x2 :: x1 :: x0 :: .ref a :: rest) S H Q := xq_callI_H (As := [x0, x1, x2]) hg d hl hi hnm hmt rfl rfl hW hk hE kk
theorem xq_callI3N {x0 x1 x2 : Value} {rest : List Value} (hg : xGd M' 3) (d : decode (mC M) pc = .ok (.invokespecial i, 3)) (hl : Cond.methodLink (mY M).cls i (mY M') ∈ lw_g) (hi : Cond.instanceMethod (mY M') ∈ lw_g) (hnm : (mY M').name = "<init>") (hmt : mT M' = none) (hW : (rest.map fun v => v.category).sum ≤ 8) (hk : k' < k) {P : xH → Prop} (hE : Nv M' k' [.ref a, x0, x1, x2] S H P) (kk : ∀ H1, P H1 → Xq M k b1 b2 (pc + 3) L rest S H1 Q) : Xq M k b1 b2 pc L (x2 :: x1 :: x0 :: .ref a :: rest) S H Q := xq_callI_N (As := [x0, x1, x2]) hg d hl hi hnm hmt rfl rfl hW hk hE kk
theorem xq_callSN1G {x0 : Value} {rest : List Value} {host : String} (hg : xGd M' 1) (d : decode (mC M) pc = .ok (.invokestatic i, 3)) (hl : ((mY M).cls, i, mY M', host) ∈ lw_nest) (hi : Cond.static (mY M') ∈ lw_g) (hW : (rest.map fun v => v.category).sum ≤ 8) (hk : k' < k) {Q' : xR → Prop} (hE : Vq M' k' c1 c2 [x0] S H Q') (kk : ∀ r S1 H1, Q' (r, S1, H1) → Xq M k b1 b2 (pc + 3) L (r.toList ++ rest) S1 H1 Q) : Xq M k (b1 + c1) (b2 + c2) pc L (x0 :: rest) S H Q := xq_callSN_G (As := [x0]) hg d hl hi rfl rfl hW hk hE kk
theorem xq_callSN1P {x0 : Value} {rest : List Value} {host : String} (hg : xGd M' 1) (d : decode (mC M) pc = .ok (.invokestatic i, 3)) (hl : ((mY M).cls, i, mY M', host) ∈ lw_nest) (hi : Cond.static (mY M') ∈ lw_g) (hW : (rest.map fun v => v.category).sum ≤ 8) (hk : k' < k) {v : Value} (hE : Pv M' k' [x0] S H v) (kk : Xq M k b1 b2 (pc + 3) L (v :: rest) S H Q) : Xq M k b1 b2 pc L (x0 :: rest) S H Q := xq_callSN_P (As := [x0]) hg d hl hi rfl rfl hW hk hE kk
theorem xq_callSN1H {x0 : Value} {rest : List Value} {host : String} (hg : xGd M' 1) (d : decode (mC M) pc = .ok (.invokestatic i, 3)) (hl : ((mY M).cls, i, mY M', host) ∈ lw_nest) (hi : Cond.static (mY M') ∈ lw_g) (hW : (rest.map fun v => v.category).sum ≤ 8) (hk : k' < k) {α : Type} {f : α → Value} {P : α → xH → Prop} (hE : Hv M' k' [x0] S H f P) (kk : ∀ x H1, P x H1 → Xq M k b1 b2 (pc + 3) L (f x :: rest) S H1 Q) : Xq M k b1 b2 pc L (x0 :: rest) S H Q := xq_callSN_H (As := [x0]) hg d hl hi rfl rfl hW hk hE kk
theorem xq_callSN1N {x0 : Value} {rest : List Value} {host : String} (hg : xGd M' 1) (d : decode (mC M) pc = .ok (.invokestatic i, 3)) (hl : ((mY M).cls, i, mY M', host) ∈ lw_nest) (hi : Cond.static (mY M') ∈ lw_g) (hW : (rest.map fun v => v.category).sum ≤ 8) (hk : k' < k) {P : xH → Prop} (hE : Nv M' k' [x0] S H P) (kk : ∀ H1, P H1 → Xq M k b1 b2 (pc + 3) L rest S H1 Q) : Xq M k b1 b2 pc L (x0 :: rest) S H Q := xq_callSN_N (As := [x0]) hg d hl hi rfl rfl hW hk hE kk
theorem xq_callSN2G {x0 x1 : Value} {rest : List Value} {host : String} (hg : xGd M' 2) (d : decode (mC M) pc = .ok (.invokestatic i, 3)) (hl : ((mY M).cls, i, mY M', host) ∈ lw_nest) (hi : Cond.static (mY M') ∈ lw_g) (hW : (rest.map fun v => v.category).sum ≤ 8) (hk : k' < k) {Q' : xR → Prop} (hE : Vq M' k' c1 c2 [x0, x1] S H Q') (kk : ∀ r S1 H1, Q' (r, S1, H1) → Xq M k b1 b2 (pc + 3) L (r.toList ++ rest) S1 H1 Q) : Xq M k (b1 + c1) (b2 + c2) pc L (x1 :: x0 :: rest) S H Q := xq_callSN_G (As := [x0, x1]) hg d hl hi rfl rfl hW hk hE kk
theorem xq_callSN2P {x0 x1 : Value} {rest : List Value} {host : String} (hg : xGd M' 2) (d : decode (mC M) pc = .ok (.invokestatic i, 3)) (hl : ((mY M).cls, i, mY M', host) ∈ lw_nest) (hi : Cond.static (mY M') ∈ lw_g) (hW : (rest.map fun v => v.category).sum ≤ 8) (hk : k' < k) {v : Value} (hE : Pv M' k' [x0, x1] S H v) (kk : Xq M k b1 b2 (pc + 3) L (v :: rest) S H Q) : Xq M k b1 b2 pc L (x1 :: x0 :: rest) S H Q := xq_callSN_P (As := [x0, x1]) hg d hl hi rfl rfl hW hk hE kk
theorem xq_callSN2H {x0 x1 : Value} {rest : List Value} {host : String} (hg : xGd M' 2) (d : decode (mC M) pc = .ok (.invokestatic i, 3)) (hl : ((mY M).cls, i, mY M', host) ∈ lw_nest) (hi : Cond.static (mY M') ∈ lw_g) (hW : (rest.map fun v => v.category).sum ≤ 8) (hk : k' < k) {α : Type} {f : α → Value} {P : α → xH → Prop} (hE : Hv M' k' [x0, x1] S H f P) (kk : ∀ x H1, P x H1 → Xq M k b1 b2 (pc + 3) L (f x :: rest) S H1 Q) : Xq M k b1 b2 pc L (x1 :: x0 :: rest) S H Q := xq_callSN_H (As := [x0, x1]) hg d hl hi rfl rfl hW hk hE kk
theorem xq_callSN2N {x0 x1 : Value} {rest : List Value} {host : String} (hg : xGd M' 2) (d : decode (mC M) pc = .ok (.invokestatic i, 3)) (hl : ((mY M).cls, i, mY M', host) ∈ lw_nest) (hi : Cond.static (mY M') ∈ lw_g) (hW : (rest.map fun v => v.category).sum ≤ 8) (hk : k' < k) {P : xH → Prop} (hE : Nv M' k' [x0, x1] S H P) (kk : ∀ H1, P H1 → Xq M k b1 b2 (pc + 3) L rest S H1 Q) : Xq M k b1 b2 pc L (x1 :: x0 :: rest) S H Q := xq_callSN_N (As := [x0, x1]) hg d hl hi rfl rfl hW hk hE kk
theorem xq_callIN0G {rest : List Value} {host : String} (hg : xGd M' 0) (d : decode (mC M) pc = .ok (.invokespecial i, 3)) (hl : ((mY M).cls, i, mY M', host) ∈ lw_nest) (hi : Cond.instanceMethod (mY M') ∈ lw_g) (hnm : (mY M').name = "<init>") (hmt : mT M' = none) (hW : (rest.map fun v => v.category).sum ≤ 8) (hk : k' < k) {Q' : xR → Prop} (hE : Vq M' k' c1 c2 [.ref a] S H Q') (kk : ∀ r S1 H1, Q' (r, S1, H1) → Xq M k b1 b2 (pc + 3) L (r.toList ++ rest) S1 H1 Q) : Xq M k (b1 + c1) (b2 + c2) pc L (.ref a :: rest) S H Q := xq_callIN_G (As := []) hg d hl hi hnm hmt rfl rfl hW hk hE kk
theorem xq_callIN0P {rest : List Value} {host : String} (hg : xGd M' 0) (d : decode (mC M) pc = .ok (.invokespecial i, 3)) (hl : ((mY M).cls, i, mY M', host) ∈ lw_nest) (hi : Cond.instanceMethod (mY M') ∈ lw_g) (hnm : (mY M').name = "<init>") (hmt : mT M' = none) (hW : (rest.map fun v => v.category).sum ≤ 8) (hk : k' < k) {v : Value} (hE : Pv M' k' [.ref a] S H v) (kk : Xq M k b1 b2 (pc + 3) L (v :: rest) S H Q) : Xq M k b1 b2 pc L (.ref a :: rest) S H Q := xq_callIN_P (As := []) hg d hl hi hnm hmt rfl rfl hW hk hE kk
theorem xq_callIN0H {rest : List Value} {host : String} (hg : xGd M' 0) (d : decode (mC M) pc = .ok (.invokespecial i, 3)) (hl : ((mY M).cls, i, mY M', host) ∈ lw_nest) (hi : Cond.instanceMethod (mY M') ∈ lw_g) (hnm : (mY M').name = "<init>") (hmt : mT M' = none) (hW : (rest.map fun v => v.category).sum ≤ 8) (hk : k' < k) {α : Type} {f : α → Value} {P : α → xH → Prop} (hE : Hv M' k' [.ref a] S H f P) (kk : ∀ x H1, P x H1 → Xq M k b1 b2 (pc + 3) L (f x :: rest) S H1 Q) : Xq M k b1 b2 pc L (.ref a :: rest) S H Q := xq_callIN_H (As := []) hg d hl hi hnm hmt rfl rfl hW hk hE kk
theorem xq_callIN0N {rest : List Value} {host : String} (hg : xGd M' 0) (d : decode (mC M) pc = .ok (.invokespecial i, 3)) (hl : ((mY M).cls, i, mY M', host) ∈ lw_nest) (hi : Cond.instanceMethod (mY M') ∈ lw_g) (hnm : (mY M').name = "<init>") (hmt : mT M' = none) (hW : (rest.map fun v => v.category).sum ≤ 8) (hk : k' < k) {P : xH → Prop} (hE : Nv M' k' [.ref a] S H P) (kk : ∀ H1, P H1 → Xq M k b1 b2 (pc + 3) L rest S H1 Q) : Xq M k b1 b2 pc L (.ref a :: rest) S H Q := xq_callIN_N (As := []) hg d hl hi hnm hmt rfl rfl hW hk hE kk
theorem xq_callIN1G {x0 : Value} {rest : List Value} {host : String} (hg : xGd M' 1) (d : decode (mC M) pc = .ok (.invokespecial i, 3)) (hl : ((mY M).cls, i, mY M', host) ∈ lw_nest) (hi : Cond.instanceMethod (mY M') ∈ lw_g) (hnm : (mY M').name = "<init>") (hmt : mT M' = none) (hW : (rest.map fun v => v.category).sum ≤ 8) (hk : k' < k) {Q' : xR → Prop} (hE : Vq M' k' c1 c2 [.ref a, x0] S H Q') (kk : ∀ r S1 H1, Q' (r, S1, H1) → Xq M k b1 b2 (pc + 3) L (r.toList ++ rest) S1 H1 Q) : Xq M k (b1 + c1) (b2 + c2) pc L (x0 :: .ref a :: rest) S H Q := xq_callIN_G (As := [x0]) hg d hl hi hnm hmt rfl rfl hW hk hE kk
theorem xq_callIN1P {x0 : Value} {rest : List Value} {host : String} (hg : xGd M' 1) (d : decode (mC M) pc = .ok (.invokespecial i, 3)) (hl : ((mY M).cls, i, mY M', host) ∈ lw_nest) (hi : Cond.instanceMethod (mY M') ∈ lw_g) (hnm : (mY M').name = "<init>") (hmt : mT M' = none) (hW : (rest.map fun v => v.category).sum ≤ 8) (hk : k' < k) {v : Value} (hE : Pv M' k' [.ref a, x0] S H v) (kk : Xq M k b1 b2 (pc + 3) L (v :: rest) S H Q) : Xq M k b1 b2 pc L (x0 :: .ref a :: rest) S H Q := xq_callIN_P (As := [x0]) hg d hl hi hnm hmt rfl rfl hW hk hE kk
theorem xq_callIN1H {x0 : Value} {rest : List Value} {host : String} (hg : xGd M' 1) (d : decode (mC M) pc = .ok (.invokespecial i, 3)) (hl : ((mY M).cls, i, mY M', host) ∈ lw_nest) (hi : Cond.instanceMethod (mY M') ∈ lw_g) (hnm : (mY M').name = "<init>") (hmt : mT M' = none) (hW : (rest.map fun v => v.category).sum ≤ 8) (hk : k' < k) {α : Type} {f : α → Value} {P : α → xH → Prop} (hE : Hv M' k' [.ref a, x0] S H f P) (kk : ∀ x H1, P x H1 → Xq M k b1 b2 (pc + 3) L (f x :: rest) S H1 Q) : Xq M k b1 b2 pc L (x0 :: .ref a :: rest) S H Q := xq_callIN_H (As := [x0]) hg d hl hi hnm hmt rfl rfl hW hk hE kk
theorem xq_callIN1N {x0 : Value} {rest : List Value} {host : String} (hg : xGd M' 1) (d : decode (mC M) pc = .ok (.invokespecial i, 3)) (hl : ((mY M).cls, i, mY M', host) ∈ lw_nest) (hi : Cond.instanceMethod (mY M') ∈ lw_g) (hnm : (mY M').name = "<init>") (hmt : mT M' = none) (hW : (rest.map fun v => v.category).sum ≤ 8) (hk : k' < k) {P : xH → Prop} (hE : Nv M' k' [.ref a, x0] S H P) (kk : ∀ H1, P H1 → Xq M k b1 b2 (pc + 3) L rest S H1 Q) : Xq M k b1 b2 pc L (x0 :: .ref a :: rest) S H Q := xq_callIN_N (As := [x0]) hg d hl hi hnm hmt rfl rfl hW hk hE kk
end XA
