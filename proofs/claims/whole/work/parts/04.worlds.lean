def tyM (cI : ClassId) : List (ClassId × FieldType) := [(cI, .int)]
def tyX (cI cT : ClassId) : List (ClassId × FieldType) := [(cI, .int), (cT, .object "WhoseWork$Thing")]
abbrev ro_0 : rl_O := fun _ _ _ => True
theorem ro_0_ok : rl_Ro ro_0 := rl_Ro_true
theorem hcX0 : vwCl[0]? = some (RX0, TX0, 7) := rfl
theorem hcX1 : vwCl[1]? = some (RX1, TX1, 3) := rfl
theorem hcX2 : vwCl[2]? = some (RX2, TX2, 6) := rfl
theorem hcX3 : vwCl[3]? = some (RX3, TX3, 4) := rfl
theorem hcX4 : vwCl[4]? = some (RX4, TX4, 3) := rfl
theorem hcX5 : vwCl[5]? = some (RX5, TX5, 2) := rfl
theorem hcX6 : vwCl[6]? = some (RX6, TX6, 2) := rfl
theorem hcX7 : vwCl[7]? = some (RX7, TX7, 9) := rfl
theorem hcX8 : vwCl[8]? = some (RX8, TX8, 27) := rfl
def wX (a : Nat → Nat) (cI : ClassId) (cT : ClassId) (σ : St) : va_W := [
(a 0, .inr (7, [.ref (a 1), .ref (a 2), .ref (a 3), .ref (a 4), .ref (a 5), .ref (a 6), .ref (a 7), .ref (a 8), .int (σ 0 8)])),
  (a 1, .inr (5, [.ref (a 9), .int (σ 1 1)])),
  (a 2, .inr (2, [.ref (a 1), .int (σ 2 1), .int (σ 2 2), .int (σ 2 3), .ref (a 10), .int (σ 2 5)])),
  (a 3, .inr (0, [.ref (a 11), .int (σ 3 1), .ref (a 12), .ref (a 13), .ref (a 14), .ref (a 15), .ref (a 16)])),
  (a 4, .inr (4, [.ref (a 17), .ref (a 18), .int (σ 4 2)])),
  (a 5, .inr (1, [.ref (a 3), .ref (a 4), .ref (a 19)])),
  (a 6, .inl (cT, 6, .inr (.inr (.inr (.inr (fun i => some (a (23 + i)))))))),
  (a 7, .inr (3, [.ref (a 20), .ref (a 21), .ref (a 22), .int (σ 7 3)])),
  (a 8, .inl (cI, 24, .inl (σ 8))),
  (a 9, .inl (cI, 160, .inl (σ 9))),
  (a 10, .inl (cI, 56, .inl (σ 10))),
  (a 11, .inl (cI, 140, .inl (σ 11))),
  (a 12, .inl (cI, 240, .inl (σ 12))),
  (a 13, .inl (cI, 6, .inl (σ 13))),
  (a 14, .inl (cI, 6, .inl (σ 14))),
  (a 15, .inl (cI, 6, .inl (σ 15))),
  (a 16, .inl (cI, 6, .inl (σ 16))),
  (a 17, .inl (cI, 36, .inl (σ 17))),
  (a 18, .inl (cI, 6, .inl (σ 18))),
  (a 19, .inl (cI, 54, .inl (σ 19))),
  (a 20, .inl (cI, 16, .inl (σ 20))),
  (a 21, .inl (cI, 16, .inl (σ 21))),
  (a 22, .inl (cI, 16, .inl (σ 22))),
  (a 23, .inr (6, [.ref (a 29), .int (σ 23 1)])),
  (a 24, .inr (6, [.ref (a 30), .int (σ 24 1)])),
  (a 25, .inr (6, [.ref (a 31), .int (σ 25 1)])),
  (a 26, .inr (6, [.ref (a 32), .int (σ 26 1)])),
  (a 27, .inr (6, [.ref (a 33), .int (σ 27 1)])),
  (a 28, .inr (6, [.ref (a 34), .int (σ 28 1)])),
  (a 29, .inl (cI, 16, .inl (σ 29))),
  (a 30, .inl (cI, 16, .inl (σ 30))),
  (a 31, .inl (cI, 16, .inl (σ 31))),
  (a 32, .inl (cI, 16, .inl (σ 32))),
  (a 33, .inl (cI, 16, .inl (σ 33))),
  (a 34, .inl (cI, 16, .inl (σ 34)))]
theorem gX_0 (a : Nat → Nat) (cI : ClassId) (cT : ClassId) (σ : St) : (wX a cI cT σ)[0]? = some (a 0, .inr (7, [.ref (a 1), .ref (a 2), .ref (a 3), .ref (a 4), .ref (a 5), .ref (a 6), .ref (a 7), .ref (a 8), .int (σ 0 8)])) := rfl
theorem gX_1 (a : Nat → Nat) (cI : ClassId) (cT : ClassId) (σ : St) : (wX a cI cT σ)[1]? = some (a 1, .inr (5, [.ref (a 9), .int (σ 1 1)])) := rfl
theorem gX_2 (a : Nat → Nat) (cI : ClassId) (cT : ClassId) (σ : St) : (wX a cI cT σ)[2]? = some (a 2, .inr (2, [.ref (a 1), .int (σ 2 1), .int (σ 2 2), .int (σ 2 3), .ref (a 10), .int (σ 2 5)])) := rfl
theorem gX_3 (a : Nat → Nat) (cI : ClassId) (cT : ClassId) (σ : St) : (wX a cI cT σ)[3]? = some (a 3, .inr (0, [.ref (a 11), .int (σ 3 1), .ref (a 12), .ref (a 13), .ref (a 14), .ref (a 15), .ref (a 16)])) := rfl
theorem gX_4 (a : Nat → Nat) (cI : ClassId) (cT : ClassId) (σ : St) : (wX a cI cT σ)[4]? = some (a 4, .inr (4, [.ref (a 17), .ref (a 18), .int (σ 4 2)])) := rfl
theorem gX_5 (a : Nat → Nat) (cI : ClassId) (cT : ClassId) (σ : St) : (wX a cI cT σ)[5]? = some (a 5, .inr (1, [.ref (a 3), .ref (a 4), .ref (a 19)])) := rfl
theorem gX_6 (a : Nat → Nat) (cI : ClassId) (cT : ClassId) (σ : St) : (wX a cI cT σ)[6]? = some (a 6, .inl (cT, 6, .inr (.inr (.inr (.inr (fun i => some (a (23 + i)))))))) := rfl
theorem gX_7 (a : Nat → Nat) (cI : ClassId) (cT : ClassId) (σ : St) : (wX a cI cT σ)[7]? = some (a 7, .inr (3, [.ref (a 20), .ref (a 21), .ref (a 22), .int (σ 7 3)])) := rfl
theorem gX_8 (a : Nat → Nat) (cI : ClassId) (cT : ClassId) (σ : St) : (wX a cI cT σ)[8]? = some (a 8, .inl (cI, 24, .inl (σ 8))) := rfl
theorem gX_9 (a : Nat → Nat) (cI : ClassId) (cT : ClassId) (σ : St) : (wX a cI cT σ)[9]? = some (a 9, .inl (cI, 160, .inl (σ 9))) := rfl
theorem gX_10 (a : Nat → Nat) (cI : ClassId) (cT : ClassId) (σ : St) : (wX a cI cT σ)[10]? = some (a 10, .inl (cI, 56, .inl (σ 10))) := rfl
theorem gX_11 (a : Nat → Nat) (cI : ClassId) (cT : ClassId) (σ : St) : (wX a cI cT σ)[11]? = some (a 11, .inl (cI, 140, .inl (σ 11))) := rfl
theorem gX_12 (a : Nat → Nat) (cI : ClassId) (cT : ClassId) (σ : St) : (wX a cI cT σ)[12]? = some (a 12, .inl (cI, 240, .inl (σ 12))) := rfl
theorem gX_13 (a : Nat → Nat) (cI : ClassId) (cT : ClassId) (σ : St) : (wX a cI cT σ)[13]? = some (a 13, .inl (cI, 6, .inl (σ 13))) := rfl
theorem gX_14 (a : Nat → Nat) (cI : ClassId) (cT : ClassId) (σ : St) : (wX a cI cT σ)[14]? = some (a 14, .inl (cI, 6, .inl (σ 14))) := rfl
theorem gX_15 (a : Nat → Nat) (cI : ClassId) (cT : ClassId) (σ : St) : (wX a cI cT σ)[15]? = some (a 15, .inl (cI, 6, .inl (σ 15))) := rfl
theorem gX_16 (a : Nat → Nat) (cI : ClassId) (cT : ClassId) (σ : St) : (wX a cI cT σ)[16]? = some (a 16, .inl (cI, 6, .inl (σ 16))) := rfl
theorem gX_17 (a : Nat → Nat) (cI : ClassId) (cT : ClassId) (σ : St) : (wX a cI cT σ)[17]? = some (a 17, .inl (cI, 36, .inl (σ 17))) := rfl
theorem gX_18 (a : Nat → Nat) (cI : ClassId) (cT : ClassId) (σ : St) : (wX a cI cT σ)[18]? = some (a 18, .inl (cI, 6, .inl (σ 18))) := rfl
theorem gX_19 (a : Nat → Nat) (cI : ClassId) (cT : ClassId) (σ : St) : (wX a cI cT σ)[19]? = some (a 19, .inl (cI, 54, .inl (σ 19))) := rfl
theorem gX_20 (a : Nat → Nat) (cI : ClassId) (cT : ClassId) (σ : St) : (wX a cI cT σ)[20]? = some (a 20, .inl (cI, 16, .inl (σ 20))) := rfl
theorem gX_21 (a : Nat → Nat) (cI : ClassId) (cT : ClassId) (σ : St) : (wX a cI cT σ)[21]? = some (a 21, .inl (cI, 16, .inl (σ 21))) := rfl
theorem gX_22 (a : Nat → Nat) (cI : ClassId) (cT : ClassId) (σ : St) : (wX a cI cT σ)[22]? = some (a 22, .inl (cI, 16, .inl (σ 22))) := rfl
theorem gX_23 (a : Nat → Nat) (cI : ClassId) (cT : ClassId) (σ : St) : (wX a cI cT σ)[23]? = some (a 23, .inr (6, [.ref (a 29), .int (σ 23 1)])) := rfl
theorem gX_24 (a : Nat → Nat) (cI : ClassId) (cT : ClassId) (σ : St) : (wX a cI cT σ)[24]? = some (a 24, .inr (6, [.ref (a 30), .int (σ 24 1)])) := rfl
theorem gX_25 (a : Nat → Nat) (cI : ClassId) (cT : ClassId) (σ : St) : (wX a cI cT σ)[25]? = some (a 25, .inr (6, [.ref (a 31), .int (σ 25 1)])) := rfl
theorem gX_26 (a : Nat → Nat) (cI : ClassId) (cT : ClassId) (σ : St) : (wX a cI cT σ)[26]? = some (a 26, .inr (6, [.ref (a 32), .int (σ 26 1)])) := rfl
theorem gX_27 (a : Nat → Nat) (cI : ClassId) (cT : ClassId) (σ : St) : (wX a cI cT σ)[27]? = some (a 27, .inr (6, [.ref (a 33), .int (σ 27 1)])) := rfl
theorem gX_28 (a : Nat → Nat) (cI : ClassId) (cT : ClassId) (σ : St) : (wX a cI cT σ)[28]? = some (a 28, .inr (6, [.ref (a 34), .int (σ 28 1)])) := rfl
theorem gX_29 (a : Nat → Nat) (cI : ClassId) (cT : ClassId) (σ : St) : (wX a cI cT σ)[29]? = some (a 29, .inl (cI, 16, .inl (σ 29))) := rfl
theorem gX_30 (a : Nat → Nat) (cI : ClassId) (cT : ClassId) (σ : St) : (wX a cI cT σ)[30]? = some (a 30, .inl (cI, 16, .inl (σ 30))) := rfl
theorem gX_31 (a : Nat → Nat) (cI : ClassId) (cT : ClassId) (σ : St) : (wX a cI cT σ)[31]? = some (a 31, .inl (cI, 16, .inl (σ 31))) := rfl
theorem gX_32 (a : Nat → Nat) (cI : ClassId) (cT : ClassId) (σ : St) : (wX a cI cT σ)[32]? = some (a 32, .inl (cI, 16, .inl (σ 32))) := rfl
theorem gX_33 (a : Nat → Nat) (cI : ClassId) (cT : ClassId) (σ : St) : (wX a cI cT σ)[33]? = some (a 33, .inl (cI, 16, .inl (σ 33))) := rfl
theorem gX_34 (a : Nat → Nat) (cI : ClassId) (cT : ClassId) (σ : St) : (wX a cI cT σ)[34]? = some (a 34, .inl (cI, 16, .inl (σ 34))) := rfl
theorem sX_0_8 (a : Nat → Nat) (cI : ClassId) (cT : ClassId) (σ : St) (v : Int32) : (wX a cI cT σ).set 0 (a 0, .inr (7, [.ref (a 1), .ref (a 2), .ref (a 3), .ref (a 4), .ref (a 5), .ref (a 6), .ref (a 7), .ref (a 8), .int v])) = wX a cI cT (st_wr σ 0 8 v) := rfl
theorem sX_1_1 (a : Nat → Nat) (cI : ClassId) (cT : ClassId) (σ : St) (v : Int32) : (wX a cI cT σ).set 1 (a 1, .inr (5, [.ref (a 9), .int v])) = wX a cI cT (st_wr σ 1 1 v) := rfl
theorem sX_2_1 (a : Nat → Nat) (cI : ClassId) (cT : ClassId) (σ : St) (v : Int32) : (wX a cI cT σ).set 2 (a 2, .inr (2, [.ref (a 1), .int v, .int (σ 2 2), .int (σ 2 3), .ref (a 10), .int (σ 2 5)])) = wX a cI cT (st_wr σ 2 1 v) := rfl
theorem sX_2_2 (a : Nat → Nat) (cI : ClassId) (cT : ClassId) (σ : St) (v : Int32) : (wX a cI cT σ).set 2 (a 2, .inr (2, [.ref (a 1), .int (σ 2 1), .int v, .int (σ 2 3), .ref (a 10), .int (σ 2 5)])) = wX a cI cT (st_wr σ 2 2 v) := rfl
theorem sX_2_3 (a : Nat → Nat) (cI : ClassId) (cT : ClassId) (σ : St) (v : Int32) : (wX a cI cT σ).set 2 (a 2, .inr (2, [.ref (a 1), .int (σ 2 1), .int (σ 2 2), .int v, .ref (a 10), .int (σ 2 5)])) = wX a cI cT (st_wr σ 2 3 v) := rfl
theorem sX_2_5 (a : Nat → Nat) (cI : ClassId) (cT : ClassId) (σ : St) (v : Int32) : (wX a cI cT σ).set 2 (a 2, .inr (2, [.ref (a 1), .int (σ 2 1), .int (σ 2 2), .int (σ 2 3), .ref (a 10), .int v])) = wX a cI cT (st_wr σ 2 5 v) := rfl
theorem sX_3_1 (a : Nat → Nat) (cI : ClassId) (cT : ClassId) (σ : St) (v : Int32) : (wX a cI cT σ).set 3 (a 3, .inr (0, [.ref (a 11), .int v, .ref (a 12), .ref (a 13), .ref (a 14), .ref (a 15), .ref (a 16)])) = wX a cI cT (st_wr σ 3 1 v) := rfl
theorem sX_4_2 (a : Nat → Nat) (cI : ClassId) (cT : ClassId) (σ : St) (v : Int32) : (wX a cI cT σ).set 4 (a 4, .inr (4, [.ref (a 17), .ref (a 18), .int v])) = wX a cI cT (st_wr σ 4 2 v) := rfl
theorem sX_7_3 (a : Nat → Nat) (cI : ClassId) (cT : ClassId) (σ : St) (v : Int32) : (wX a cI cT σ).set 7 (a 7, .inr (3, [.ref (a 20), .ref (a 21), .ref (a 22), .int v])) = wX a cI cT (st_wr σ 7 3 v) := rfl
theorem sX_8 (a : Nat → Nat) (cI : ClassId) (cT : ClassId) (σ : St) (f : Nat → Int32) : (wX a cI cT σ).set 8 (a 8, .inl (cI, 24, .inl f)) = wX a cI cT (st_up σ 8 f) := rfl
theorem sX_9 (a : Nat → Nat) (cI : ClassId) (cT : ClassId) (σ : St) (f : Nat → Int32) : (wX a cI cT σ).set 9 (a 9, .inl (cI, 160, .inl f)) = wX a cI cT (st_up σ 9 f) := rfl
theorem sX_10 (a : Nat → Nat) (cI : ClassId) (cT : ClassId) (σ : St) (f : Nat → Int32) : (wX a cI cT σ).set 10 (a 10, .inl (cI, 56, .inl f)) = wX a cI cT (st_up σ 10 f) := rfl
theorem sX_11 (a : Nat → Nat) (cI : ClassId) (cT : ClassId) (σ : St) (f : Nat → Int32) : (wX a cI cT σ).set 11 (a 11, .inl (cI, 140, .inl f)) = wX a cI cT (st_up σ 11 f) := rfl
theorem sX_12 (a : Nat → Nat) (cI : ClassId) (cT : ClassId) (σ : St) (f : Nat → Int32) : (wX a cI cT σ).set 12 (a 12, .inl (cI, 240, .inl f)) = wX a cI cT (st_up σ 12 f) := rfl
theorem sX_13 (a : Nat → Nat) (cI : ClassId) (cT : ClassId) (σ : St) (f : Nat → Int32) : (wX a cI cT σ).set 13 (a 13, .inl (cI, 6, .inl f)) = wX a cI cT (st_up σ 13 f) := rfl
theorem sX_14 (a : Nat → Nat) (cI : ClassId) (cT : ClassId) (σ : St) (f : Nat → Int32) : (wX a cI cT σ).set 14 (a 14, .inl (cI, 6, .inl f)) = wX a cI cT (st_up σ 14 f) := rfl
theorem sX_15 (a : Nat → Nat) (cI : ClassId) (cT : ClassId) (σ : St) (f : Nat → Int32) : (wX a cI cT σ).set 15 (a 15, .inl (cI, 6, .inl f)) = wX a cI cT (st_up σ 15 f) := rfl
theorem sX_16 (a : Nat → Nat) (cI : ClassId) (cT : ClassId) (σ : St) (f : Nat → Int32) : (wX a cI cT σ).set 16 (a 16, .inl (cI, 6, .inl f)) = wX a cI cT (st_up σ 16 f) := rfl
theorem sX_17 (a : Nat → Nat) (cI : ClassId) (cT : ClassId) (σ : St) (f : Nat → Int32) : (wX a cI cT σ).set 17 (a 17, .inl (cI, 36, .inl f)) = wX a cI cT (st_up σ 17 f) := rfl
theorem sX_18 (a : Nat → Nat) (cI : ClassId) (cT : ClassId) (σ : St) (f : Nat → Int32) : (wX a cI cT σ).set 18 (a 18, .inl (cI, 6, .inl f)) = wX a cI cT (st_up σ 18 f) := rfl
theorem sX_19 (a : Nat → Nat) (cI : ClassId) (cT : ClassId) (σ : St) (f : Nat → Int32) : (wX a cI cT σ).set 19 (a 19, .inl (cI, 54, .inl f)) = wX a cI cT (st_up σ 19 f) := rfl
theorem sX_20 (a : Nat → Nat) (cI : ClassId) (cT : ClassId) (σ : St) (f : Nat → Int32) : (wX a cI cT σ).set 20 (a 20, .inl (cI, 16, .inl f)) = wX a cI cT (st_up σ 20 f) := rfl
theorem sX_21 (a : Nat → Nat) (cI : ClassId) (cT : ClassId) (σ : St) (f : Nat → Int32) : (wX a cI cT σ).set 21 (a 21, .inl (cI, 16, .inl f)) = wX a cI cT (st_up σ 21 f) := rfl
theorem sX_22 (a : Nat → Nat) (cI : ClassId) (cT : ClassId) (σ : St) (f : Nat → Int32) : (wX a cI cT σ).set 22 (a 22, .inl (cI, 16, .inl f)) = wX a cI cT (st_up σ 22 f) := rfl
theorem sX_23_1 (a : Nat → Nat) (cI : ClassId) (cT : ClassId) (σ : St) (v : Int32) : (wX a cI cT σ).set 23 (a 23, .inr (6, [.ref (a 29), .int v])) = wX a cI cT (st_wr σ 23 1 v) := rfl
theorem sX_24_1 (a : Nat → Nat) (cI : ClassId) (cT : ClassId) (σ : St) (v : Int32) : (wX a cI cT σ).set 24 (a 24, .inr (6, [.ref (a 30), .int v])) = wX a cI cT (st_wr σ 24 1 v) := rfl
theorem sX_25_1 (a : Nat → Nat) (cI : ClassId) (cT : ClassId) (σ : St) (v : Int32) : (wX a cI cT σ).set 25 (a 25, .inr (6, [.ref (a 31), .int v])) = wX a cI cT (st_wr σ 25 1 v) := rfl
theorem sX_26_1 (a : Nat → Nat) (cI : ClassId) (cT : ClassId) (σ : St) (v : Int32) : (wX a cI cT σ).set 26 (a 26, .inr (6, [.ref (a 32), .int v])) = wX a cI cT (st_wr σ 26 1 v) := rfl
theorem sX_27_1 (a : Nat → Nat) (cI : ClassId) (cT : ClassId) (σ : St) (v : Int32) : (wX a cI cT σ).set 27 (a 27, .inr (6, [.ref (a 33), .int v])) = wX a cI cT (st_wr σ 27 1 v) := rfl
theorem sX_28_1 (a : Nat → Nat) (cI : ClassId) (cT : ClassId) (σ : St) (v : Int32) : (wX a cI cT σ).set 28 (a 28, .inr (6, [.ref (a 34), .int v])) = wX a cI cT (st_wr σ 28 1 v) := rfl
theorem sX_29 (a : Nat → Nat) (cI : ClassId) (cT : ClassId) (σ : St) (f : Nat → Int32) : (wX a cI cT σ).set 29 (a 29, .inl (cI, 16, .inl f)) = wX a cI cT (st_up σ 29 f) := rfl
theorem sX_30 (a : Nat → Nat) (cI : ClassId) (cT : ClassId) (σ : St) (f : Nat → Int32) : (wX a cI cT σ).set 30 (a 30, .inl (cI, 16, .inl f)) = wX a cI cT (st_up σ 30 f) := rfl
theorem sX_31 (a : Nat → Nat) (cI : ClassId) (cT : ClassId) (σ : St) (f : Nat → Int32) : (wX a cI cT σ).set 31 (a 31, .inl (cI, 16, .inl f)) = wX a cI cT (st_up σ 31 f) := rfl
theorem sX_32 (a : Nat → Nat) (cI : ClassId) (cT : ClassId) (σ : St) (f : Nat → Int32) : (wX a cI cT σ).set 32 (a 32, .inl (cI, 16, .inl f)) = wX a cI cT (st_up σ 32 f) := rfl
theorem sX_33 (a : Nat → Nat) (cI : ClassId) (cT : ClassId) (σ : St) (f : Nat → Int32) : (wX a cI cT σ).set 33 (a 33, .inl (cI, 16, .inl f)) = wX a cI cT (st_up σ 33 f) := rfl
theorem sX_34 (a : Nat → Nat) (cI : ClassId) (cT : ClassId) (σ : St) (f : Nat → Int32) : (wX a cI cT σ).set 34 (a 34, .inl (cI, 16, .inl f)) = wX a cI cT (st_up σ 34 f) := rfl
theorem gX_t (a : Nat → Nat) (cI cT : ClassId) (σ : St) {t : Nat} (ht : t < 6) : (wX a cI cT σ)[23 + t]? = some (a (23 + t), .inr (6, [.ref (a (29 + t)), .int (σ (23 + t) 1)])) := by
  match t, ht with
  | 0, _ => rfl
  | 1, _ => rfl
  | 2, _ => rfl
  | 3, _ => rfl
  | 4, _ => rfl
  | 5, _ => rfl
theorem gX_u (a : Nat → Nat) (cI cT : ClassId) (σ : St) {t : Nat} (ht : t < 6) : (wX a cI cT σ)[29 + t]? = some (a (29 + t), .inl (cI, 16, .inl (σ (29 + t)))) := by
  match t, ht with
  | 0, _ => rfl
  | 1, _ => rfl
  | 2, _ => rfl
  | 3, _ => rfl
  | 4, _ => rfl
  | 5, _ => rfl
theorem sX_t (a : Nat → Nat) (cI cT : ClassId) (σ : St) {t : Nat} (ht : t < 6) (v : Int32) : (wX a cI cT σ).set (23 + t) (a (23 + t), .inr (6, [.ref (a (29 + t)), .int v])) = wX a cI cT (st_wr σ (23 + t) 1 v) := by
  match t, ht with
  | 0, _ => rfl
  | 1, _ => rfl
  | 2, _ => rfl
  | 3, _ => rfl
  | 4, _ => rfl
  | 5, _ => rfl
theorem sX_u (a : Nat → Nat) (cI cT : ClassId) (σ : St) {t : Nat} (ht : t < 6) (f : Nat → Int32) : (wX a cI cT σ).set (29 + t) (a (29 + t), .inl (cI, 16, .inl f)) = wX a cI cT (st_up σ (29 + t) f) := by
  match t, ht with
  | 0, _ => rfl
  | 1, _ => rfl
  | 2, _ => rfl
  | 3, _ => rfl
  | 4, _ => rfl
  | 5, _ => rfl
def wM (a : Nat → Nat) (cI : ClassId) (σ : St) : va_W := [
(a 0, .inr (8, [.ref (a 1), .int (σ 0 1), .ref (a 2), .int (σ 0 3), .ref (a 3), .int (σ 0 5), .ref (a 4), .ref (a 5), .ref (a 6), .ref (a 7), .ref (a 8), .int (σ 0 11), .ref (a 9), .ref (a 10), .ref (a 11), .int (σ 0 15), .ref (a 12), .int (σ 0 17), .int (σ 0 18), .int (σ 0 19), .int (σ 0 20), .int (σ 0 21), .int (σ 0 22), .ref (a 13), .ref (a 14), .int (σ 0 25), .ref (a 15)])),
  (a 1, .inl (cI, 160, .inl (σ 1))),
  (a 2, .inl (cI, 140, .inl (σ 2))),
  (a 3, .inl (cI, 56, .inl (σ 3))),
  (a 4, .inl (cI, 48, .inl (σ 4))),
  (a 5, .inl (cI, 48, .inl (σ 5))),
  (a 6, .inl (cI, 6, .inl (σ 6))),
  (a 7, .inl (cI, 36, .inl (σ 7))),
  (a 8, .inl (cI, 6, .inl (σ 8))),
  (a 9, .inl (cI, 16, .inl (σ 9))),
  (a 10, .inl (cI, 16, .inl (σ 10))),
  (a 11, .inl (cI, 16, .inl (σ 11))),
  (a 12, .inl (cI, 24, .inl (σ 12))),
  (a 13, .inl (cI, 16, .inl (σ 13))),
  (a 14, .inl (cI, 96, .inl (σ 14))),
  (a 15, .inl (cI, 63, .inl (σ 15)))]
theorem gM_0 (a : Nat → Nat) (cI : ClassId) (σ : St) : (wM a cI σ)[0]? = some (a 0, .inr (8, [.ref (a 1), .int (σ 0 1), .ref (a 2), .int (σ 0 3), .ref (a 3), .int (σ 0 5), .ref (a 4), .ref (a 5), .ref (a 6), .ref (a 7), .ref (a 8), .int (σ 0 11), .ref (a 9), .ref (a 10), .ref (a 11), .int (σ 0 15), .ref (a 12), .int (σ 0 17), .int (σ 0 18), .int (σ 0 19), .int (σ 0 20), .int (σ 0 21), .int (σ 0 22), .ref (a 13), .ref (a 14), .int (σ 0 25), .ref (a 15)])) := rfl
theorem gM_1 (a : Nat → Nat) (cI : ClassId) (σ : St) : (wM a cI σ)[1]? = some (a 1, .inl (cI, 160, .inl (σ 1))) := rfl
theorem gM_2 (a : Nat → Nat) (cI : ClassId) (σ : St) : (wM a cI σ)[2]? = some (a 2, .inl (cI, 140, .inl (σ 2))) := rfl
theorem gM_3 (a : Nat → Nat) (cI : ClassId) (σ : St) : (wM a cI σ)[3]? = some (a 3, .inl (cI, 56, .inl (σ 3))) := rfl
theorem gM_4 (a : Nat → Nat) (cI : ClassId) (σ : St) : (wM a cI σ)[4]? = some (a 4, .inl (cI, 48, .inl (σ 4))) := rfl
theorem gM_5 (a : Nat → Nat) (cI : ClassId) (σ : St) : (wM a cI σ)[5]? = some (a 5, .inl (cI, 48, .inl (σ 5))) := rfl
theorem gM_6 (a : Nat → Nat) (cI : ClassId) (σ : St) : (wM a cI σ)[6]? = some (a 6, .inl (cI, 6, .inl (σ 6))) := rfl
theorem gM_7 (a : Nat → Nat) (cI : ClassId) (σ : St) : (wM a cI σ)[7]? = some (a 7, .inl (cI, 36, .inl (σ 7))) := rfl
theorem gM_8 (a : Nat → Nat) (cI : ClassId) (σ : St) : (wM a cI σ)[8]? = some (a 8, .inl (cI, 6, .inl (σ 8))) := rfl
theorem gM_9 (a : Nat → Nat) (cI : ClassId) (σ : St) : (wM a cI σ)[9]? = some (a 9, .inl (cI, 16, .inl (σ 9))) := rfl
theorem gM_10 (a : Nat → Nat) (cI : ClassId) (σ : St) : (wM a cI σ)[10]? = some (a 10, .inl (cI, 16, .inl (σ 10))) := rfl
theorem gM_11 (a : Nat → Nat) (cI : ClassId) (σ : St) : (wM a cI σ)[11]? = some (a 11, .inl (cI, 16, .inl (σ 11))) := rfl
theorem gM_12 (a : Nat → Nat) (cI : ClassId) (σ : St) : (wM a cI σ)[12]? = some (a 12, .inl (cI, 24, .inl (σ 12))) := rfl
theorem gM_13 (a : Nat → Nat) (cI : ClassId) (σ : St) : (wM a cI σ)[13]? = some (a 13, .inl (cI, 16, .inl (σ 13))) := rfl
theorem gM_14 (a : Nat → Nat) (cI : ClassId) (σ : St) : (wM a cI σ)[14]? = some (a 14, .inl (cI, 96, .inl (σ 14))) := rfl
theorem gM_15 (a : Nat → Nat) (cI : ClassId) (σ : St) : (wM a cI σ)[15]? = some (a 15, .inl (cI, 63, .inl (σ 15))) := rfl
theorem sM_0_1 (a : Nat → Nat) (cI : ClassId) (σ : St) (v : Int32) : (wM a cI σ).set 0 (a 0, .inr (8, [.ref (a 1), .int v, .ref (a 2), .int (σ 0 3), .ref (a 3), .int (σ 0 5), .ref (a 4), .ref (a 5), .ref (a 6), .ref (a 7), .ref (a 8), .int (σ 0 11), .ref (a 9), .ref (a 10), .ref (a 11), .int (σ 0 15), .ref (a 12), .int (σ 0 17), .int (σ 0 18), .int (σ 0 19), .int (σ 0 20), .int (σ 0 21), .int (σ 0 22), .ref (a 13), .ref (a 14), .int (σ 0 25), .ref (a 15)])) = wM a cI (st_wr σ 0 1 v) := rfl
theorem sM_0_3 (a : Nat → Nat) (cI : ClassId) (σ : St) (v : Int32) : (wM a cI σ).set 0 (a 0, .inr (8, [.ref (a 1), .int (σ 0 1), .ref (a 2), .int v, .ref (a 3), .int (σ 0 5), .ref (a 4), .ref (a 5), .ref (a 6), .ref (a 7), .ref (a 8), .int (σ 0 11), .ref (a 9), .ref (a 10), .ref (a 11), .int (σ 0 15), .ref (a 12), .int (σ 0 17), .int (σ 0 18), .int (σ 0 19), .int (σ 0 20), .int (σ 0 21), .int (σ 0 22), .ref (a 13), .ref (a 14), .int (σ 0 25), .ref (a 15)])) = wM a cI (st_wr σ 0 3 v) := rfl
theorem sM_0_5 (a : Nat → Nat) (cI : ClassId) (σ : St) (v : Int32) : (wM a cI σ).set 0 (a 0, .inr (8, [.ref (a 1), .int (σ 0 1), .ref (a 2), .int (σ 0 3), .ref (a 3), .int v, .ref (a 4), .ref (a 5), .ref (a 6), .ref (a 7), .ref (a 8), .int (σ 0 11), .ref (a 9), .ref (a 10), .ref (a 11), .int (σ 0 15), .ref (a 12), .int (σ 0 17), .int (σ 0 18), .int (σ 0 19), .int (σ 0 20), .int (σ 0 21), .int (σ 0 22), .ref (a 13), .ref (a 14), .int (σ 0 25), .ref (a 15)])) = wM a cI (st_wr σ 0 5 v) := rfl
theorem sM_0_11 (a : Nat → Nat) (cI : ClassId) (σ : St) (v : Int32) : (wM a cI σ).set 0 (a 0, .inr (8, [.ref (a 1), .int (σ 0 1), .ref (a 2), .int (σ 0 3), .ref (a 3), .int (σ 0 5), .ref (a 4), .ref (a 5), .ref (a 6), .ref (a 7), .ref (a 8), .int v, .ref (a 9), .ref (a 10), .ref (a 11), .int (σ 0 15), .ref (a 12), .int (σ 0 17), .int (σ 0 18), .int (σ 0 19), .int (σ 0 20), .int (σ 0 21), .int (σ 0 22), .ref (a 13), .ref (a 14), .int (σ 0 25), .ref (a 15)])) = wM a cI (st_wr σ 0 11 v) := rfl
theorem sM_0_15 (a : Nat → Nat) (cI : ClassId) (σ : St) (v : Int32) : (wM a cI σ).set 0 (a 0, .inr (8, [.ref (a 1), .int (σ 0 1), .ref (a 2), .int (σ 0 3), .ref (a 3), .int (σ 0 5), .ref (a 4), .ref (a 5), .ref (a 6), .ref (a 7), .ref (a 8), .int (σ 0 11), .ref (a 9), .ref (a 10), .ref (a 11), .int v, .ref (a 12), .int (σ 0 17), .int (σ 0 18), .int (σ 0 19), .int (σ 0 20), .int (σ 0 21), .int (σ 0 22), .ref (a 13), .ref (a 14), .int (σ 0 25), .ref (a 15)])) = wM a cI (st_wr σ 0 15 v) := rfl
theorem sM_0_17 (a : Nat → Nat) (cI : ClassId) (σ : St) (v : Int32) : (wM a cI σ).set 0 (a 0, .inr (8, [.ref (a 1), .int (σ 0 1), .ref (a 2), .int (σ 0 3), .ref (a 3), .int (σ 0 5), .ref (a 4), .ref (a 5), .ref (a 6), .ref (a 7), .ref (a 8), .int (σ 0 11), .ref (a 9), .ref (a 10), .ref (a 11), .int (σ 0 15), .ref (a 12), .int v, .int (σ 0 18), .int (σ 0 19), .int (σ 0 20), .int (σ 0 21), .int (σ 0 22), .ref (a 13), .ref (a 14), .int (σ 0 25), .ref (a 15)])) = wM a cI (st_wr σ 0 17 v) := rfl
theorem sM_0_18 (a : Nat → Nat) (cI : ClassId) (σ : St) (v : Int32) : (wM a cI σ).set 0 (a 0, .inr (8, [.ref (a 1), .int (σ 0 1), .ref (a 2), .int (σ 0 3), .ref (a 3), .int (σ 0 5), .ref (a 4), .ref (a 5), .ref (a 6), .ref (a 7), .ref (a 8), .int (σ 0 11), .ref (a 9), .ref (a 10), .ref (a 11), .int (σ 0 15), .ref (a 12), .int (σ 0 17), .int v, .int (σ 0 19), .int (σ 0 20), .int (σ 0 21), .int (σ 0 22), .ref (a 13), .ref (a 14), .int (σ 0 25), .ref (a 15)])) = wM a cI (st_wr σ 0 18 v) := rfl
theorem sM_0_19 (a : Nat → Nat) (cI : ClassId) (σ : St) (v : Int32) : (wM a cI σ).set 0 (a 0, .inr (8, [.ref (a 1), .int (σ 0 1), .ref (a 2), .int (σ 0 3), .ref (a 3), .int (σ 0 5), .ref (a 4), .ref (a 5), .ref (a 6), .ref (a 7), .ref (a 8), .int (σ 0 11), .ref (a 9), .ref (a 10), .ref (a 11), .int (σ 0 15), .ref (a 12), .int (σ 0 17), .int (σ 0 18), .int v, .int (σ 0 20), .int (σ 0 21), .int (σ 0 22), .ref (a 13), .ref (a 14), .int (σ 0 25), .ref (a 15)])) = wM a cI (st_wr σ 0 19 v) := rfl
theorem sM_0_20 (a : Nat → Nat) (cI : ClassId) (σ : St) (v : Int32) : (wM a cI σ).set 0 (a 0, .inr (8, [.ref (a 1), .int (σ 0 1), .ref (a 2), .int (σ 0 3), .ref (a 3), .int (σ 0 5), .ref (a 4), .ref (a 5), .ref (a 6), .ref (a 7), .ref (a 8), .int (σ 0 11), .ref (a 9), .ref (a 10), .ref (a 11), .int (σ 0 15), .ref (a 12), .int (σ 0 17), .int (σ 0 18), .int (σ 0 19), .int v, .int (σ 0 21), .int (σ 0 22), .ref (a 13), .ref (a 14), .int (σ 0 25), .ref (a 15)])) = wM a cI (st_wr σ 0 20 v) := rfl
theorem sM_0_21 (a : Nat → Nat) (cI : ClassId) (σ : St) (v : Int32) : (wM a cI σ).set 0 (a 0, .inr (8, [.ref (a 1), .int (σ 0 1), .ref (a 2), .int (σ 0 3), .ref (a 3), .int (σ 0 5), .ref (a 4), .ref (a 5), .ref (a 6), .ref (a 7), .ref (a 8), .int (σ 0 11), .ref (a 9), .ref (a 10), .ref (a 11), .int (σ 0 15), .ref (a 12), .int (σ 0 17), .int (σ 0 18), .int (σ 0 19), .int (σ 0 20), .int v, .int (σ 0 22), .ref (a 13), .ref (a 14), .int (σ 0 25), .ref (a 15)])) = wM a cI (st_wr σ 0 21 v) := rfl
theorem sM_0_22 (a : Nat → Nat) (cI : ClassId) (σ : St) (v : Int32) : (wM a cI σ).set 0 (a 0, .inr (8, [.ref (a 1), .int (σ 0 1), .ref (a 2), .int (σ 0 3), .ref (a 3), .int (σ 0 5), .ref (a 4), .ref (a 5), .ref (a 6), .ref (a 7), .ref (a 8), .int (σ 0 11), .ref (a 9), .ref (a 10), .ref (a 11), .int (σ 0 15), .ref (a 12), .int (σ 0 17), .int (σ 0 18), .int (σ 0 19), .int (σ 0 20), .int (σ 0 21), .int v, .ref (a 13), .ref (a 14), .int (σ 0 25), .ref (a 15)])) = wM a cI (st_wr σ 0 22 v) := rfl
theorem sM_0_25 (a : Nat → Nat) (cI : ClassId) (σ : St) (v : Int32) : (wM a cI σ).set 0 (a 0, .inr (8, [.ref (a 1), .int (σ 0 1), .ref (a 2), .int (σ 0 3), .ref (a 3), .int (σ 0 5), .ref (a 4), .ref (a 5), .ref (a 6), .ref (a 7), .ref (a 8), .int (σ 0 11), .ref (a 9), .ref (a 10), .ref (a 11), .int (σ 0 15), .ref (a 12), .int (σ 0 17), .int (σ 0 18), .int (σ 0 19), .int (σ 0 20), .int (σ 0 21), .int (σ 0 22), .ref (a 13), .ref (a 14), .int v, .ref (a 15)])) = wM a cI (st_wr σ 0 25 v) := rfl
theorem sM_1 (a : Nat → Nat) (cI : ClassId) (σ : St) (f : Nat → Int32) : (wM a cI σ).set 1 (a 1, .inl (cI, 160, .inl f)) = wM a cI (st_up σ 1 f) := rfl
theorem sM_2 (a : Nat → Nat) (cI : ClassId) (σ : St) (f : Nat → Int32) : (wM a cI σ).set 2 (a 2, .inl (cI, 140, .inl f)) = wM a cI (st_up σ 2 f) := rfl
theorem sM_3 (a : Nat → Nat) (cI : ClassId) (σ : St) (f : Nat → Int32) : (wM a cI σ).set 3 (a 3, .inl (cI, 56, .inl f)) = wM a cI (st_up σ 3 f) := rfl
theorem sM_4 (a : Nat → Nat) (cI : ClassId) (σ : St) (f : Nat → Int32) : (wM a cI σ).set 4 (a 4, .inl (cI, 48, .inl f)) = wM a cI (st_up σ 4 f) := rfl
theorem sM_5 (a : Nat → Nat) (cI : ClassId) (σ : St) (f : Nat → Int32) : (wM a cI σ).set 5 (a 5, .inl (cI, 48, .inl f)) = wM a cI (st_up σ 5 f) := rfl
theorem sM_6 (a : Nat → Nat) (cI : ClassId) (σ : St) (f : Nat → Int32) : (wM a cI σ).set 6 (a 6, .inl (cI, 6, .inl f)) = wM a cI (st_up σ 6 f) := rfl
theorem sM_7 (a : Nat → Nat) (cI : ClassId) (σ : St) (f : Nat → Int32) : (wM a cI σ).set 7 (a 7, .inl (cI, 36, .inl f)) = wM a cI (st_up σ 7 f) := rfl
theorem sM_8 (a : Nat → Nat) (cI : ClassId) (σ : St) (f : Nat → Int32) : (wM a cI σ).set 8 (a 8, .inl (cI, 6, .inl f)) = wM a cI (st_up σ 8 f) := rfl
theorem sM_9 (a : Nat → Nat) (cI : ClassId) (σ : St) (f : Nat → Int32) : (wM a cI σ).set 9 (a 9, .inl (cI, 16, .inl f)) = wM a cI (st_up σ 9 f) := rfl
theorem sM_10 (a : Nat → Nat) (cI : ClassId) (σ : St) (f : Nat → Int32) : (wM a cI σ).set 10 (a 10, .inl (cI, 16, .inl f)) = wM a cI (st_up σ 10 f) := rfl
theorem sM_11 (a : Nat → Nat) (cI : ClassId) (σ : St) (f : Nat → Int32) : (wM a cI σ).set 11 (a 11, .inl (cI, 16, .inl f)) = wM a cI (st_up σ 11 f) := rfl
theorem sM_12 (a : Nat → Nat) (cI : ClassId) (σ : St) (f : Nat → Int32) : (wM a cI σ).set 12 (a 12, .inl (cI, 24, .inl f)) = wM a cI (st_up σ 12 f) := rfl
theorem sM_13 (a : Nat → Nat) (cI : ClassId) (σ : St) (f : Nat → Int32) : (wM a cI σ).set 13 (a 13, .inl (cI, 16, .inl f)) = wM a cI (st_up σ 13 f) := rfl
theorem sM_14 (a : Nat → Nat) (cI : ClassId) (σ : St) (f : Nat → Int32) : (wM a cI σ).set 14 (a 14, .inl (cI, 96, .inl f)) = wM a cI (st_up σ 14 f) := rfl
theorem sM_15 (a : Nat → Nat) (cI : ClassId) (σ : St) (f : Nat → Int32) : (wM a cI σ).set 15 (a 15, .inl (cI, 63, .inl f)) = wM a cI (st_up σ 15 f) := rfl
