/-! what the law's own methods do: printed -/
def lw_f1 {α : Type} (x : α) : Nat → α := fun _ => x
def lw_f4 {α : Type} (x0 x1 x2 x3 : α) : Nat → α := fun j => match j with
  | 0 => x0
  | 1 => x1
  | 2 => x2
  | _ => x3
/-- the rate, with x hits and y misses -/
def rD (x y : Int32) : UInt64 := if x + y = 0 then FP.dconst0 else FP.ddiv (FP.i2d x) (FP.i2d (x + y))
def F_L_many_L2 : Nat → Hp → Int32 → Option Int32
  | 0, _, _ => none
  | n + 1, σx, x1 =>
    lm_br ((10 : Int32) ≤ x1)
     (some x1)
     (lm_gi x1 10
     (lm_br ((σx 0 x1.toNatClampNeg) < 0)
      (some x1)
      (F_L_many_L2 n σx (x1 + (1 : Int32)))))
def F_L_many (σ : Hp)  : Option Int32 :=
  F_L_many_L2 1000 σ (0 : Int32)
def F_L_out_L4 : Nat → Hp → Int32 → Int32 → Int32 → Option (Hp)
  | 0, _, _, _, _ => none
  | n + 1, σx, x1, x2, x3 =>
    lm_br ((10 : Int32) ≤ x3)
     (some σx)
     (lm_gi x3 10
     (lm_gi x3 10
     (lm_lt (lm_u σx 0 (x3.toNatClampNeg) (-1 : Int32)) fun σ3 =>
     lm_br ((σx 0 x3.toNatClampNeg) < 0)
      (F_L_out_L4 n σ3 x1 x2 (x3 + (1 : Int32)))
      (lm_br ((σx 0 x3.toNatClampNeg) = x1)
       (F_L_out_L4 n σ3 x1 x2 (x3 + (1 : Int32)))
       (lm_gi x2 10
       (lm_lt (lm_u σ3 0 (x2.toNatClampNeg) (σx 0 x3.toNatClampNeg)) fun σ6 =>
       F_L_out_L4 n σ6 x1 (x2 + (1 : Int32)) (x3 + (1 : Int32))))))))
def F_L_out (σ : Hp) (x1 : Int32) : Option (Hp) :=
  F_L_out_L4 1000 σ x1 (0 : Int32) (0 : Int32)
def F_L_has_L4 : Nat → Hp → Int32 → Int32 → Int32 → Option Int32
  | 0, _, _, _, _ => none
  | n + 1, σx, x1, x2, x3 =>
    lm_br ((10 : Int32) ≤ x3)
     (lm_gd (x2 = 0 ∨ x2 = 1) (some x2))
     (lm_br (¬ x2 = 0)
      (F_L_has_L4 n σx x1 (1 : Int32) (x3 + (1 : Int32)))
      (lm_gi x3 10
      (lm_br (¬ (σx 0 x3.toNatClampNeg) = x1)
       (F_L_has_L4 n σx x1 (0 : Int32) (x3 + (1 : Int32)))
       (F_L_has_L4 n σx x1 (1 : Int32) (x3 + (1 : Int32))))))
def F_L_has (σ : Hp) (x1 : Int32) : Option Int32 :=
  F_L_has_L4 1000 σ x1 (0 : Int32) (0 : Int32)
def F_L_weight_L14 : Nat → Hp → Int32 → Int32 → Int32 → Int32 → Option Int32
  | 0, _, _, _, _, _ => none
  | n + 1, σx, x2, x3, x4, x5 =>
    lm_br ((σx 0 5) ≤ x5)
     (some x4)
     (lm_gi (((2 : Int32) * x5) + (1 : Int32)) 44
     (lm_lt (σx 1 ((((2 : Int32) * x5) + (1 : Int32))).toNatClampNeg) fun t4 =>
     lm_gi ((2 : Int32) * x5) 44
     (lm_br (¬ (σx 1 (((2 : Int32) * x5)).toNatClampNeg) = x2)
      (F_L_weight_L14 n σx x2 x3 (x4 + (0 : Int32)) (x5 + (1 : Int32)))
      (lm_br (t4 < (σx 0 3))
       (F_L_weight_L14 n σx x2 x3 (x4 + (0 : Int32)) (x5 + (1 : Int32)))
       (lm_br ((σx 0 4) < t4)
        (F_L_weight_L14 n σx x2 x3 (x4 + (0 : Int32)) (x5 + (1 : Int32)))
        (lm_br (x3 = 0)
         (F_L_weight_L14 n σx x2 x3 (x4 + (1 : Int32)) (x5 + (1 : Int32)))
         (F_L_weight_L14 n σx x2 x3 (x4 + t4) (x5 + (1 : Int32)))))))))
def F_L_weight (σ : Hp) (x2 x3 : Int32) : Option Int32 :=
  lm_br (x3 = 0)
   (F_L_weight_L14 1000 σ x2 x3 (2 : Int32) (0 : Int32))
   (F_L_weight_L14 1000 σ x2 x3 (0 : Int32) (0 : Int32))
def F_L_weights_L5 : Nat → Hp → Int32 → Int32 → Option Int32
  | 0, _, _, _ => none
  | n + 1, σx, x3, x4 =>
    lm_bd (F_L_many (lw_f1 (σx 3))) fun r1 =>
    lm_br (r1 ≤ x4)
     (some x3)
     (lm_gi x4 10
     (lm_bd (F_L_weight σx (σx 3 x4.toNatClampNeg) (0 : Int32)) fun r4 =>
     F_L_weights_L5 n σx (x3 + r4) (x4 + (1 : Int32))))
def F_L_weights (σ : Hp)  : Option Int32 :=
  F_L_weights_L5 1000 σ (0 : Int32) (0 : Int32)
def F_L_first_L6 : Nat → Hp → Int32 → Int32 → Int32 → Option Int32
  | 0, _, _, _, _ => none
  | n + 1, σx, x4, x5, x6 =>
    lm_bd (F_L_many (lw_f1 (σx 1))) fun r1 =>
    lm_br (r1 ≤ x6)
     (some x5)
     (lm_br (¬ (σx 0 1) = (2 : Int32))
      (lm_gi x6 10
      (lm_br (x5 < 0)
       (lm_br ((σx 2 x6.toNatClampNeg) = x4)
        (F_L_first_L6 n σx x4 x5 (x6 + (1 : Int32)))
        (F_L_first_L6 n σx x4 (σx 2 x6.toNatClampNeg) (x6 + (1 : Int32))))
       (lm_br (¬ (σx 0 1) = (1 : Int32))
        (lm_br ((σx 2 x6.toNatClampNeg) = x4)
         (F_L_first_L6 n σx x4 x5 (x6 + (1 : Int32)))
         (F_L_first_L6 n σx x4 x5 (x6 + (1 : Int32))))
        (lm_gi (σx 2 x6.toNatClampNeg) 10
        (lm_gi x5 10
        (lm_br ((σx 3 x5.toNatClampNeg) ≤ (σx 3 ((σx 2 x6.toNatClampNeg)).toNatClampNeg))
         (lm_br ((σx 2 x6.toNatClampNeg) = x4)
          (F_L_first_L6 n σx x4 x5 (x6 + (1 : Int32)))
          (F_L_first_L6 n σx x4 x5 (x6 + (1 : Int32))))
         (lm_br ((σx 2 x6.toNatClampNeg) = x4)
          (F_L_first_L6 n σx x4 x5 (x6 + (1 : Int32)))
          (F_L_first_L6 n σx x4 (σx 2 x6.toNatClampNeg) (x6 + (1 : Int32))))))))))
      (lm_gi x6 10
      (lm_br (x5 < 0)
       (lm_br ((σx 1 x6.toNatClampNeg) = x4)
        (F_L_first_L6 n σx x4 x5 (x6 + (1 : Int32)))
        (F_L_first_L6 n σx x4 (σx 1 x6.toNatClampNeg) (x6 + (1 : Int32))))
       (lm_br (¬ (σx 0 1) = (1 : Int32))
        (lm_br ((σx 1 x6.toNatClampNeg) = x4)
         (F_L_first_L6 n σx x4 x5 (x6 + (1 : Int32)))
         (F_L_first_L6 n σx x4 x5 (x6 + (1 : Int32))))
        (lm_gi (σx 1 x6.toNatClampNeg) 10
        (lm_gi x5 10
        (lm_br ((σx 3 x5.toNatClampNeg) ≤ (σx 3 ((σx 1 x6.toNatClampNeg)).toNatClampNeg))
         (lm_br ((σx 1 x6.toNatClampNeg) = x4)
          (F_L_first_L6 n σx x4 x5 (x6 + (1 : Int32)))
          (F_L_first_L6 n σx x4 x5 (x6 + (1 : Int32))))
         (lm_br ((σx 1 x6.toNatClampNeg) = x4)
          (F_L_first_L6 n σx x4 x5 (x6 + (1 : Int32)))
          (F_L_first_L6 n σx x4 (σx 1 x6.toNatClampNeg) (x6 + (1 : Int32)))))))))))
def F_L_first (σ : Hp) (x4 : Int32) : Option Int32 :=
  F_L_first_L6 1000 σ x4 (-1 : Int32) (0 : Int32)
def F_L_room_L15 : Nat → Hp → Int32 → Int32 → Int32 → Option (Int32 × (Hp))
  | 0, _, _, _, _ => none
  | n + 1, σx, x5, x6, x7 =>
    lm_br (x7 < 0)
     (lm_lt (lm_u σx 0 12 ((σx 0 12) + x6)) fun σ3 =>
     some (x6, σ3))
     (lm_bd (F_L_weights σx) fun r4 =>
     lm_br (r4 ≤ (σx 0 0))
      (lm_lt (lm_u σx 0 12 ((σx 0 12) + x6)) fun σ6 =>
      some (x6, σ6))
      (lm_bd (F_L_out (lw_f1 (σx 3)) x7) fun τ7 =>
      lm_lt (lm_ua σx 3 (τ7 0)) fun σ8 =>
      lm_bd (F_L_out (lw_f1 (σ8 4)) x7) fun τ9 =>
      lm_lt (lm_ua σ8 4 (τ9 0)) fun σ10 =>
      lm_bd (F_L_first (lw_f4 (σ10 0) (σ10 3) (σ10 4) (σ10 5)) x5) fun r11 =>
      F_L_room_L15 n σ10 x5 (x6 + (1 : Int32)) r11))
def F_L_room (σ : Hp) (x5 : Int32) : Option (Int32 × (Hp)) :=
  lm_bd (F_L_first (lw_f4 (σ 0) (σ 3) (σ 4) (σ 5)) x5) fun r1 =>
  F_L_room_L15 1000 σ x5 (0 : Int32) r1
def F_L_goes_L13 : Nat → Hp → Int32 → Int32 → Option (Int32 × (Hp))
  | 0, _, _, _ => none
  | n + 1, σx, x4, x5 =>
    lm_br ((10 : Int32) ≤ x5)
     (lm_bd (F_L_many (lw_f1 (σx 3))) fun r11 =>
     lm_lt (lm_u σx 0 13 ((σx 0 13) + (x4 - r11))) fun σ12 =>
     lm_bd (F_L_many (lw_f1 (σ12 3))) fun r13 =>
     some ((x4 - r13), σ12))
     (lm_gi x5 10
     (lm_lt (lm_u σx 3 (x5.toNatClampNeg) (-1 : Int32)) fun σ14 =>
     lm_gi x5 10
     (lm_lt (lm_u σ14 4 (x5.toNatClampNeg) (-1 : Int32)) fun σ15 =>
     F_L_goes_L13 n σ15 x4 (x5 + (1 : Int32)))))
def F_L_goes (σ : Hp) (x3 : Int32) : Option (Int32 × (Hp)) :=
  lm_bd (F_L_many (lw_f1 (σ 3))) fun r1 =>
  lm_br (0 ≤ x3)
   (lm_bd (F_L_out (lw_f1 (σ 3)) x3) fun τ3 =>
   lm_lt (lm_ua σ 3 (τ3 0)) fun σ4 =>
   lm_bd (F_L_out (lw_f1 (σ4 4)) x3) fun τ5 =>
   lm_lt (lm_ua σ4 4 (τ5 0)) fun σ6 =>
   lm_bd (F_L_many (lw_f1 (σ6 3))) fun r7 =>
   lm_lt (lm_u σ6 0 13 ((σ6 0 13) + (r1 - r7))) fun σ8 =>
   lm_bd (F_L_many (lw_f1 (σ8 3))) fun r9 =>
   some ((r1 - r9), σ8))
   (F_L_goes_L13 1000 σ r1 (0 : Int32))
def F_L_kept (σ : Hp) (x3 x4 : Int32) : Option (Hp) :=
  lm_br (¬ (σ 0 2) = (2 : Int32))
   (lm_br (¬ (σ 0 2) = (1 : Int32))
    (lm_b2 (F_L_goes σ x3) fun r4 σ3 =>
    lm_br (¬ (σ3 0 2) = 0)
     (some σ3)
     (lm_b2 (F_L_goes σ3 x4) fun r7 σ6 =>
     some σ6))
    (lm_b2 (F_L_goes σ (-1 : Int32)) fun r9 σ8 =>
    lm_br (¬ (σ8 0 2) = 0)
     (some σ8)
     (lm_b2 (F_L_goes σ8 x4) fun r12 σ11 =>
     some σ11)))
   (lm_bd (F_L_has (lw_f1 (σ 3)) x3) fun r13 =>
   lm_br (r13 = 0)
    (lm_br (x3 = x4)
     (lm_lt (lm_u σ 0 15 ((σ 0 15) + (0 : Int32))) fun σ16 =>
     some σ16)
     (lm_bd (F_L_has (lw_f1 (σ 3)) x4) fun r17 =>
     lm_br (r17 = 0)
      (lm_lt (lm_u σ 0 15 ((σ 0 15) + (0 : Int32))) fun σ19 =>
      some σ19)
      (lm_lt (lm_u σ 0 15 ((σ 0 15) + (1 : Int32))) fun σ20 =>
      some σ20)))
    (lm_br (x3 = x4)
     (lm_lt (lm_u σ 0 15 ((σ 0 15) + (1 : Int32))) fun σ22 =>
     some σ22)
     (lm_bd (F_L_has (lw_f1 (σ 3)) x4) fun r23 =>
     lm_br (r23 = 0)
      (lm_lt (lm_u σ 0 15 ((σ 0 15) + (1 : Int32))) fun σ25 =>
      some σ25)
      (lm_lt (lm_u σ 0 15 ((σ 0 15) + (2 : Int32))) fun σ26 =>
      some σ26))))
def F_L_look (σ : Hp) (x5 : Int32) : Option (Int32 × (Hp)) :=
  lm_bd (F_L_has (lw_f1 (σ 3)) x5) fun r1 =>
  lm_br (r1 = 0)
   (lm_lt (lm_u σ 0 10 ((σ 0 10) + (1 : Int32))) fun σ3 =>
   lm_bd (F_L_weight σ3 x5 (0 : Int32)) fun r4 =>
   lm_br (r4 ≤ (σ3 0 0))
    (lm_bd (F_L_many (lw_f1 (σ3 3))) fun r6 =>
    lm_gi r6 10
    (lm_lt (lm_u σ3 3 (r6.toNatClampNeg) x5) fun σ7 =>
    lm_bd (F_L_many (lw_f1 (σ7 4))) fun r8 =>
    lm_gi r8 10
    (lm_lt (lm_u σ7 4 (r8.toNatClampNeg) x5) fun σ9 =>
    lm_gi x5 10
    (lm_lt (lm_u σ9 5 (x5.toNatClampNeg) (1 : Int32)) fun σ10 =>
    lm_b2 (F_L_room σ10 x5) fun r12 σ11 =>
    lm_br (0 ≤ r12)
     (some ((((2 : Int32) + (σ11 0 5)) + (0 : Int32)), σ11))
     (some ((((2 : Int32) + (σ11 0 5)) + (1 : Int32)), σ11))))))
    (lm_lt (lm_u σ3 0 14 ((σ3 0 14) + (1 : Int32))) fun σ17 =>
    some (((2 : Int32) + (σ17 0 5)), σ17)))
   (lm_bd (F_L_out (lw_f1 (σ 4)) x5) fun τ18 =>
   lm_lt (lm_ua σ 4 (τ18 0)) fun σ19 =>
   lm_bd (F_L_many (lw_f1 (σ19 4))) fun r20 =>
   lm_gi r20 10
   (lm_lt (lm_u σ19 4 (r20.toNatClampNeg) x5) fun σ21 =>
   lm_gi x5 10
   (lm_gi x5 10
   (lm_lt (lm_u σ21 5 (x5.toNatClampNeg) ((σ21 5 x5.toNatClampNeg) + (1 : Int32))) fun σ23 =>
   lm_lt (lm_u σ23 0 9 ((σ23 0 9) + (1 : Int32))) fun σ24 =>
   some ((1 : Int32), σ24)))))
def F_L_steps_L6 : Nat → Hp → Int32 → Int32 → Int32 → Option (Int32 × (Hp))
  | 0, _, _, _, _ => none
  | n + 1, σx, x6, x7, x8 =>
    lm_br (x6 ≤ x8)
     (lm_lt (lm_u σx 0 11 ((σx 0 11) + x7)) fun σ2 =>
     some (x7, σ2))
     (lm_br ((σx 0 6) ≤ (σx 0 7))
      (lm_lt (lm_u σx 0 11 ((σx 0 11) + x7)) fun σ4 =>
      some (x7, σ4))
      (lm_gi ((2 : Int32) * (σx 0 7)) 44
      (lm_lt (σx 2 (((2 : Int32) * (σx 0 7))).toNatClampNeg) fun t6 =>
      lm_b2 (F_L_look σx t6) fun r8 σ7 =>
      lm_gi (((2 : Int32) * (σ7 0 7)) + (1 : Int32)) 44
      (lm_bd (F_L_weight σ7 t6 (1 : Int32)) fun r10 =>
      lm_lt (lm_u σ7 0 8 ((σ7 0 8) + ((σ7 2 ((((2 : Int32) * (σ7 0 7)) + (1 : Int32))).toNatClampNeg) * r10))) fun σ11 =>
      lm_lt (lm_u σ11 0 7 ((σ11 0 7) + (1 : Int32))) fun σ12 =>
      F_L_steps_L6 n σ12 x6 (x7 + r8) (x8 + (1 : Int32))))))
def F_L_steps (σ : Hp) (x6 : Int32) : Option (Int32 × (Hp)) :=
  F_L_steps_L6 1000 σ x6 (0 : Int32) (0 : Int32)
def F_L_isRow (h : Nat → Hp) (x6 x7 : Int32) : Option (Int32 × (Nat → Hp)) :=
  lm_br (x6 = 0)
   (lm_br (¬ (x7 - x7 / (3 : Int32) * (3 : Int32)) = 0)
    (lm_lt ((x7 / (3 : Int32)) - (x7 / (3 : Int32)) / (4 : Int32) * (4 : Int32)) fun t3 =>
    lm_lt ((x7 / (30 : Int32)) - (x7 / (30 : Int32)) / (100 : Int32) * (100 : Int32)) fun t4 =>
    lm_br (¬ (h 9 0 6) = (20 : Int32))
     (lm_gi ((2 : Int32) * (h 9 0 6)) 44
     (lm_lt (lm_uB h 9 (lm_u (h 9) 2 ((((2 : Int32) * (h 9 0 6))).toNatClampNeg) t3)) fun h7 =>
     lm_gi (((2 : Int32) * (h 9 0 6)) + (1 : Int32)) 44
     (lm_lt (lm_uB h7 9 (lm_u (h7 9) 2 (((((2 : Int32) * (h 9 0 6)) + (1 : Int32))).toNatClampNeg) t4)) fun h8 =>
     lm_lt (lm_uB h8 9 (lm_u (h8 9) 0 6 ((h8 9 0 6) + (1 : Int32)))) fun h9 =>
     lm_b2 (F_X6_add h9 x6 t3 t4) fun r11 h10 =>
     lm_lt (lm_uB h10 9 (h9 9)) fun h12 =>
     lm_br (¬ r11 = (h 9 0 6))
      (some ((0 : Int32), h12))
      (some ((1 : Int32), h12)))))
     (lm_b2 (F_X6_add h x6 t3 t4) fun r17 h16 =>
     lm_lt (lm_uB h16 9 (h 9)) fun h18 =>
     lm_br (¬ r17 = (-3 : Int32))
      (some ((0 : Int32), h18))
      (some ((1 : Int32), h18))))
    (lm_lt ((x7 / (3 : Int32)) - (x7 / (3 : Int32)) / (10 : Int32) * (10 : Int32)) fun t20 =>
    lm_lt ((x7 / (30 : Int32)) - (x7 / (30 : Int32)) / (100 : Int32) * (100 : Int32)) fun t21 =>
    lm_br (¬ (h 9 0 6) = (20 : Int32))
     (lm_gi ((2 : Int32) * (h 9 0 6)) 44
     (lm_lt (lm_uB h 9 (lm_u (h 9) 2 ((((2 : Int32) * (h 9 0 6))).toNatClampNeg) t20)) fun h24 =>
     lm_gi (((2 : Int32) * (h 9 0 6)) + (1 : Int32)) 44
     (lm_lt (lm_uB h24 9 (lm_u (h24 9) 2 (((((2 : Int32) * (h 9 0 6)) + (1 : Int32))).toNatClampNeg) t21)) fun h25 =>
     lm_lt (lm_uB h25 9 (lm_u (h25 9) 0 6 ((h25 9 0 6) + (1 : Int32)))) fun h26 =>
     lm_b2 (F_X6_add h26 x6 t20 t21) fun r28 h27 =>
     lm_lt (lm_uB h27 9 (h26 9)) fun h29 =>
     lm_br (¬ r28 = (h 9 0 6))
      (some ((0 : Int32), h29))
      (some ((1 : Int32), h29)))))
     (lm_b2 (F_X6_add h x6 t20 t21) fun r34 h33 =>
     lm_lt (lm_uB h33 9 (h 9)) fun h35 =>
     lm_br (¬ r34 = (-3 : Int32))
      (some ((0 : Int32), h35))
      (some ((1 : Int32), h35)))))
   (lm_br (¬ (x7 - x7 / (3 : Int32) * (3 : Int32)) = 0)
    (lm_lt ((x7 / (3 : Int32)) - (x7 / (3 : Int32)) / (4 : Int32) * (4 : Int32)) fun t38 =>
    lm_lt ((x7 / (30 : Int32)) - (x7 / (30 : Int32)) / (100 : Int32) * (100 : Int32)) fun t39 =>
    lm_br (¬ (h 9 0 5) = (20 : Int32))
     (lm_gi ((2 : Int32) * (h 9 0 5)) 44
     (lm_lt (lm_uB h 9 (lm_u (h 9) 1 ((((2 : Int32) * (h 9 0 5))).toNatClampNeg) t38)) fun h42 =>
     lm_gi (((2 : Int32) * (h 9 0 5)) + (1 : Int32)) 44
     (lm_lt (lm_uB h42 9 (lm_u (h42 9) 1 (((((2 : Int32) * (h 9 0 5)) + (1 : Int32))).toNatClampNeg) t39)) fun h43 =>
     lm_lt (lm_uB h43 9 (lm_u (h43 9) 0 5 ((h43 9 0 5) + (1 : Int32)))) fun h44 =>
     lm_bd (F_L_kept (h44 9) t38 t38) fun τ45 =>
     lm_lt (lm_uB h44 9 τ45) fun h46 =>
     lm_b2 (F_X6_add h46 x6 t38 t39) fun r48 h47 =>
     lm_lt (lm_uB h47 9 (h46 9)) fun h49 =>
     lm_br (¬ r48 = (h 9 0 5))
      (some ((0 : Int32), h49))
      (some ((1 : Int32), h49)))))
     (lm_b2 (F_X6_add h x6 t38 t39) fun r54 h53 =>
     lm_lt (lm_uB h53 9 (h 9)) fun h55 =>
     lm_br (¬ r54 = (-3 : Int32))
      (some ((0 : Int32), h55))
      (some ((1 : Int32), h55))))
    (lm_lt ((x7 / (3 : Int32)) - (x7 / (3 : Int32)) / (10 : Int32) * (10 : Int32)) fun t57 =>
    lm_lt ((x7 / (30 : Int32)) - (x7 / (30 : Int32)) / (100 : Int32) * (100 : Int32)) fun t58 =>
    lm_br (¬ (h 9 0 5) = (20 : Int32))
     (lm_gi ((2 : Int32) * (h 9 0 5)) 44
     (lm_lt (lm_uB h 9 (lm_u (h 9) 1 ((((2 : Int32) * (h 9 0 5))).toNatClampNeg) t57)) fun h61 =>
     lm_gi (((2 : Int32) * (h 9 0 5)) + (1 : Int32)) 44
     (lm_lt (lm_uB h61 9 (lm_u (h61 9) 1 (((((2 : Int32) * (h 9 0 5)) + (1 : Int32))).toNatClampNeg) t58)) fun h62 =>
     lm_lt (lm_uB h62 9 (lm_u (h62 9) 0 5 ((h62 9 0 5) + (1 : Int32)))) fun h63 =>
     lm_bd (F_L_kept (h63 9) t57 t57) fun τ64 =>
     lm_lt (lm_uB h63 9 τ64) fun h65 =>
     lm_b2 (F_X6_add h65 x6 t57 t58) fun r67 h66 =>
     lm_lt (lm_uB h66 9 (h65 9)) fun h68 =>
     lm_br (¬ r67 = (h 9 0 5))
      (some ((0 : Int32), h68))
      (some ((1 : Int32), h68)))))
     (lm_b2 (F_X6_add h x6 t57 t58) fun r73 h72 =>
     lm_lt (lm_uB h72 9 (h 9)) fun h74 =>
     lm_br (¬ r73 = (-3 : Int32))
      (some ((0 : Int32), h74))
      (some ((1 : Int32), h74)))))
def F_L_isGone_L83 : Nat → (Nat → Hp) → Int32 → Int32 → Int32 → Int32 → Option (Int32 × (Nat → Hp))
  | 0, _, _, _, _, _ => none
  | n + 1, hx, x6, x7, x8, x9 =>
    lm_br (x6 = 0)
     (lm_br (((2 : Int32) * (hx 9 0 6)) ≤ x9)
      (lm_br ((hx 9 0 7) ≤ x7)
       (lm_lt (lm_uB hx 9 (lm_u (hx 9) 0 7 ((hx 9 0 7) - (0 : Int32)))) fun h12 =>
       lm_b2 (F_X6_drop h12 x6 x7) fun r14 h13 =>
       lm_lt (lm_uB h13 9 (h12 9)) fun h15 =>
       lm_br (¬ r14 = (h15 9 0 6))
        (some ((0 : Int32), h15))
        (some ((1 : Int32), h15)))
       (lm_lt (lm_uB hx 9 (lm_u (hx 9) 0 7 ((hx 9 0 7) - (1 : Int32)))) fun h18 =>
       lm_b2 (F_X6_drop h18 x6 x7) fun r20 h19 =>
       lm_lt (lm_uB h19 9 (h18 9)) fun h21 =>
       lm_br (¬ r20 = (h21 9 0 6))
        (some ((0 : Int32), h21))
        (some ((1 : Int32), h21))))
      (lm_gi (x9 + (2 : Int32)) 44
      (lm_gi x9 44
      (lm_lt (lm_uB hx 9 (lm_u (hx 9) 2 (x9.toNatClampNeg) (hx 9 2 ((x9 + (2 : Int32))).toNatClampNeg))) fun h26 =>
      F_L_isGone_L83 n h26 x6 x7 x8 (x9 + (1 : Int32))))))
     (lm_br (((2 : Int32) * (hx 9 0 5)) ≤ x9)
      (lm_bd (F_L_kept (hx 9) x8 x8) fun τ30 =>
      lm_lt (lm_uB hx 9 τ30) fun h31 =>
      lm_b2 (F_X6_drop h31 x6 x7) fun r33 h32 =>
      lm_lt (lm_uB h32 9 (h31 9)) fun h34 =>
      lm_br (¬ r33 = (h34 9 0 5))
       (some ((0 : Int32), h34))
       (some ((1 : Int32), h34)))
      (lm_gi (x9 + (2 : Int32)) 44
      (lm_gi x9 44
      (lm_lt (lm_uB hx 9 (lm_u (hx 9) 1 (x9.toNatClampNeg) (hx 9 1 ((x9 + (2 : Int32))).toNatClampNeg))) fun h39 =>
      F_L_isGone_L83 n h39 x6 x7 x8 (x9 + (1 : Int32))))))
def F_L_isGone (h : Nat → Hp) (x6 x7 : Int32) : Option (Int32 × (Nat → Hp)) :=
  lm_br (x6 = 0)
   (lm_br (x7 < (h 9 0 6))
    (lm_gi ((2 : Int32) * x7) 44
    (lm_lt (h 9 2 (((2 : Int32) * x7)).toNatClampNeg) fun t5 =>
    lm_lt (lm_uB h 9 (lm_u (h 9) 0 6 ((h 9 0 6) - (1 : Int32)))) fun h7 =>
    F_L_isGone_L83 1000 h7 x6 x7 t5 ((2 : Int32) * x7)))
    (lm_b2 (F_X6_drop h x6 x7) fun r42 h41 =>
    lm_lt (lm_uB h41 9 (h 9)) fun h43 =>
    lm_br (¬ r42 = (-1 : Int32))
     (some ((0 : Int32), h43))
     (some ((1 : Int32), h43))))
   (lm_br (x7 < (h 9 0 5))
    (lm_gi ((2 : Int32) * x7) 44
    (lm_lt (h 9 1 (((2 : Int32) * x7)).toNatClampNeg) fun t48 =>
    lm_lt (lm_uB h 9 (lm_u (h 9) 0 5 ((h 9 0 5) - (1 : Int32)))) fun h50 =>
    F_L_isGone_L83 1000 h50 x6 x7 t48 ((2 : Int32) * x7)))
    (lm_b2 (F_X6_drop h x6 x7) fun r52 h51 =>
    lm_lt (lm_uB h51 9 (h 9)) fun h53 =>
    lm_br (¬ r52 = (-1 : Int32))
     (some ((0 : Int32), h53))
     (some ((1 : Int32), h53))))
def F_L_isSet (h : Nat → Hp) (x6 x7 : Int32) : Option (Int32 × (Nat → Hp)) :=
  lm_br (¬ x6 = 0)
   (lm_br ((3 : Int32) ≤ x6)
    (lm_br (¬ x6 = (3 : Int32))
     (lm_lt ((99 : Int32) - (x7 - x7 / (40 : Int32) * (40 : Int32))) fun t4 =>
     lm_gi x6 16
     (lm_lt (lm_uB h 9 (lm_u (h 9) 0 (x6.toNatClampNeg) t4)) fun h5 =>
     lm_b2 (F_L_goes (h5 9) (-1 : Int32)) fun r8 τ7 =>
     lm_lt (lm_uB h5 9 τ7) fun h9 =>
     lm_b2 (F_X6_set h9 x6 t4) fun r11 h10 =>
     lm_lt (lm_uB h10 9 (h9 9)) fun h12 =>
     lm_br (¬ r11 = r8)
      (some ((0 : Int32), h12))
      (some ((1 : Int32), h12))))
     (lm_lt (x7 - x7 / (40 : Int32) * (40 : Int32)) fun t15 =>
     lm_gi x6 16
     (lm_lt (lm_uB h 9 (lm_u (h 9) 0 (x6.toNatClampNeg) t15)) fun h16 =>
     lm_b2 (F_L_goes (h16 9) (-1 : Int32)) fun r19 τ18 =>
     lm_lt (lm_uB h16 9 τ18) fun h20 =>
     lm_b2 (F_X6_set h20 x6 t15) fun r22 h21 =>
     lm_lt (lm_uB h21 9 (h20 9)) fun h23 =>
     lm_br (¬ r22 = r19)
      (some ((0 : Int32), h23))
      (some ((1 : Int32), h23)))))
    (lm_lt (x7 - x7 / (3 : Int32) * (3 : Int32)) fun t26 =>
    lm_gi x6 16
    (lm_lt (lm_uB h 9 (lm_u (h 9) 0 (x6.toNatClampNeg) t26)) fun h27 =>
    lm_b2 (F_L_goes (h27 9) (-1 : Int32)) fun r30 τ29 =>
    lm_lt (lm_uB h27 9 τ29) fun h31 =>
    lm_b2 (F_X6_set h31 x6 t26) fun r33 h32 =>
    lm_lt (lm_uB h32 9 (h31 9)) fun h34 =>
    lm_br (¬ r33 = r30)
     (some ((0 : Int32), h34))
     (some ((1 : Int32), h34)))))
   (lm_lt (x7 - x7 / (61 : Int32) * (61 : Int32)) fun t37 =>
   lm_gi x6 16
   (lm_lt (lm_uB h 9 (lm_u (h 9) 0 (x6.toNatClampNeg) t37)) fun h38 =>
   lm_b2 (F_L_room (h38 9) (-1 : Int32)) fun r41 τ40 =>
   lm_lt (lm_uB h38 9 τ40) fun h42 =>
   lm_b2 (F_X6_set h42 x6 t37) fun r44 h43 =>
   lm_lt (lm_uB h43 9 (h42 9)) fun h45 =>
   lm_br (¬ r44 = r41)
    (some ((0 : Int32), h45))
    (some ((1 : Int32), h45))))
def F_L_isActed (h : Nat → Hp) (x7 x8 : Int32) : Option (Int32 × (Nat → Hp)) :=
  lm_br ((7 : Int32) ≤ x7)
   (lm_br ((9 : Int32) ≤ x7)
    (lm_br (¬ x7 = (9 : Int32))
     (lm_br ((17 : Int32) ≤ x7)
      (lm_br ((19 : Int32) ≤ x7)
       (lm_br (¬ x7 = (19 : Int32))
        (lm_b2 (F_L_isSet h (x8 - x8 / (5 : Int32) * (5 : Int32)) (x8 / (5 : Int32))) fun r8 h7 =>
        lm_gd (r8 = 0 ∨ r8 = 1) (some (r8, h7)))
        (lm_br (¬ (x8 - x8 / (3 : Int32) * (3 : Int32)) = 0)
         (lm_b2 (F_L_isSet h (x8 - x8 / (5 : Int32) * (5 : Int32)) (x8 / (5 : Int32))) fun r12 h11 =>
         lm_gd (r12 = 0 ∨ r12 = 1) (some (r12, h11)))
         (lm_b2 (F_L_goes (h 9) (-1 : Int32)) fun r15 τ14 =>
         lm_lt (lm_uB h 9 τ14) fun h16 =>
         lm_b2 (F_X6_forget h16) fun r18 h17 =>
         lm_lt (lm_uB h17 9 (h16 9)) fun h19 =>
         lm_br (¬ r18 = r15)
          (some ((0 : Int32), h19))
          (some ((1 : Int32), h19)))))
       (lm_lt (lm_uB h 9 (lm_u (h 9) 0 7 (0 : Int32))) fun h21 =>
       lm_lt (lm_uB h21 9 (lm_u (h21 9) 0 8 (0 : Int32))) fun h22 =>
       lm_b2 (F_X6_again h22) fun r24 h23 =>
       lm_lt (lm_uB h23 9 (h22 9)) fun h25 =>
       lm_br (¬ r24 = (h 9 0 8))
        (some ((0 : Int32), h25))
        (some ((1 : Int32), h25))))
      (lm_lt ((1 : Int32) + (x8 - x8 / (6 : Int32) * (6 : Int32))) fun t27 =>
      lm_br (¬ (h 9 0 7) = (h 9 0 6))
       (lm_b2 (F_L_steps (h 9) t27) fun r30 τ29 =>
       lm_lt (lm_uB h 9 τ29) fun h31 =>
       lm_b2 (F_X6_step h31 t27) fun r33 h32 =>
       lm_lt (lm_uB h32 9 (h31 9)) fun h34 =>
       lm_br (¬ r33 = r30)
        (some ((0 : Int32), h34))
        (some ((1 : Int32), h34)))
       (lm_b2 (F_X6_step h t27) fun r37 h36 =>
       lm_lt (lm_uB h36 9 (h 9)) fun h38 =>
       lm_br (¬ r37 = (-2 : Int32))
        (some ((0 : Int32), h38))
        (some ((1 : Int32), h38)))))
     (lm_lt (x8 - x8 / (20 : Int32) * (20 : Int32)) fun t40 =>
     lm_lt ((x8 / (20 : Int32)) - (x8 / (20 : Int32)) / (5 : Int32) * (5 : Int32)) fun t41 =>
     lm_br (t40 < (h 9 0 5))
      (lm_gi ((2 : Int32) * t40) 44
      (lm_lt (h 9 1 (((2 : Int32) * t40)).toNatClampNeg) fun t44 =>
      lm_gi ((2 : Int32) * t40) 44
      (lm_lt (lm_uB h 9 (lm_u (h 9) 1 ((((2 : Int32) * t40)).toNatClampNeg) t41)) fun h45 =>
      lm_gi (((2 : Int32) * t40) + (1 : Int32)) 44
      (lm_lt (lm_uB h45 9 (lm_u (h45 9) 1 (((((2 : Int32) * t40) + (1 : Int32))).toNatClampNeg) ((x8 / (100 : Int32)) - (x8 / (100 : Int32)) / (100 : Int32) * (100 : Int32)))) fun h46 =>
      lm_bd (F_L_kept (h46 9) t44 t41) fun τ47 =>
      lm_lt (lm_uB h46 9 τ47) fun h48 =>
      lm_b2 (F_X6_change h48 t40 t41 ((x8 / (100 : Int32)) - (x8 / (100 : Int32)) / (100 : Int32) * (100 : Int32))) fun r50 h49 =>
      lm_lt (lm_uB h49 9 (h48 9)) fun h51 =>
      lm_bd (F_L_many (lw_f1 (h51 9 3))) fun r52 =>
      lm_br (¬ r50 = r52)
       (some ((0 : Int32), h51))
       (some ((1 : Int32), h51))))))
      (lm_b2 (F_X6_change h t40 t41 (50 : Int32)) fun r57 h56 =>
      lm_lt (lm_uB h56 9 (h 9)) fun h58 =>
      lm_br (¬ r57 = (-1 : Int32))
       (some ((0 : Int32), h58))
       (some ((1 : Int32), h58)))))
    (lm_br (¬ x7 = (7 : Int32))
     (lm_b2 (F_L_isGone h (0 : Int32) (x8 - x8 / (20 : Int32) * (20 : Int32))) fun r62 h61 =>
     lm_gd (r62 = 0 ∨ r62 = 1) (some (r62, h61)))
     (lm_b2 (F_L_isGone h (1 : Int32) (x8 - x8 / (20 : Int32) * (20 : Int32))) fun r65 h64 =>
     lm_gd (r65 = 0 ∨ r65 = 1) (some (r65, h64)))))
   (lm_br ((4 : Int32) ≤ x7)
    (lm_b2 (F_L_isRow h (0 : Int32) x8) fun r69 h68 =>
    lm_gd (r69 = 0 ∨ r69 = 1) (some (r69, h68)))
    (lm_b2 (F_L_isRow h (1 : Int32) x8) fun r72 h71 =>
    lm_gd (r72 = 0 ∨ r72 = 1) (some (r72, h71))))
def F_L_areRows_L228 : Nat → (Nat → Hp) → Int32 → Int32 → Int32 → Option Int32
  | 0, _, _, _, _ => none
  | n + 1, hx, x5, x6, x7 =>
    lm_br ((hx 9 0 6) ≤ x7)
     (lm_br (x5 = 0)
      (some (0 : Int32))
      (lm_bd (F_X6_total hx (0 : Int32)) fun r6 =>
      lm_br (¬ r6 = x6)
       (some (0 : Int32))
       (lm_bd (F_X6_total hx (1 : Int32)) fun r8 =>
       lm_br (¬ r8 = x6)
        (some (0 : Int32))
        (some (1 : Int32)))))
     (lm_gi (((2 : Int32) * x7) + (1 : Int32)) 44
     (lm_gi ((2 : Int32) * x7) 44
     (lm_bd (F_L_weight (hx 9) (hx 9 2 (((2 : Int32) * x7)).toNatClampNeg) (1 : Int32)) fun r12 =>
     lm_lt (x6 + ((hx 9 2 ((((2 : Int32) * x7) + (1 : Int32))).toNatClampNeg) * r12)) fun t13 =>
     lm_br (x5 = 0)
      (F_L_areRows_L228 n hx (0 : Int32) t13 (x7 + (1 : Int32)))
      (lm_bd (F_X6_row hx (0 : Int32) x7 (0 : Int32)) fun r15 =>
      lm_gi ((2 : Int32) * x7) 44
      (lm_br (¬ r15 = (hx 9 2 (((2 : Int32) * x7)).toNatClampNeg))
       (F_L_areRows_L228 n hx (0 : Int32) t13 (x7 + (1 : Int32)))
       (lm_bd (F_X6_row hx (0 : Int32) x7 (1 : Int32)) fun r18 =>
       lm_gi (((2 : Int32) * x7) + (1 : Int32)) 44
       (lm_br (¬ r18 = (hx 9 2 ((((2 : Int32) * x7) + (1 : Int32))).toNatClampNeg))
        (F_L_areRows_L228 n hx (0 : Int32) t13 (x7 + (1 : Int32)))
        (lm_bd (F_X6_row hx (0 : Int32) x7 (2 : Int32)) fun r21 =>
        lm_br ((hx 9 0 7) ≤ x7)
         (lm_br (¬ r21 = (0 : Int32))
          (F_L_areRows_L228 n hx (0 : Int32) t13 (x7 + (1 : Int32)))
          (F_L_areRows_L228 n hx (1 : Int32) t13 (x7 + (1 : Int32))))
         (lm_br (¬ r21 = (1 : Int32))
          (F_L_areRows_L228 n hx (0 : Int32) t13 (x7 + (1 : Int32)))
          (F_L_areRows_L228 n hx (1 : Int32) t13 (x7 + (1 : Int32))))))))))))
def F_L_areRows_L93 : Nat → (Nat → Hp) → Int32 → Int32 → Int32 → Option Int32
  | 0, _, _, _, _ => none
  | n + 1, hx, x5, x6, x7 =>
    lm_br ((hx 9 0 5) ≤ x7)
     (F_L_areRows_L228 1000 hx x5 x6 (0 : Int32))
     (lm_gi ((2 : Int32) * x7) 44
     (lm_bd (F_L_has (lw_f1 (hx 9 3)) (hx 9 1 (((2 : Int32) * x7)).toNatClampNeg)) fun r26 =>
     lm_br (r26 = 0)
      (lm_br (x5 = 0)
       (F_L_areRows_L93 n hx (0 : Int32) x6 (x7 + (1 : Int32)))
       (lm_bd (F_X6_row hx (1 : Int32) x7 (0 : Int32)) fun r29 =>
       lm_gi ((2 : Int32) * x7) 44
       (lm_br (¬ r29 = (hx 9 1 (((2 : Int32) * x7)).toNatClampNeg))
        (F_L_areRows_L93 n hx (0 : Int32) x6 (x7 + (1 : Int32)))
        (lm_bd (F_X6_row hx (1 : Int32) x7 (1 : Int32)) fun r32 =>
        lm_gi (((2 : Int32) * x7) + (1 : Int32)) 44
        (lm_br (¬ r32 = (hx 9 1 ((((2 : Int32) * x7) + (1 : Int32))).toNatClampNeg))
         (F_L_areRows_L93 n hx (0 : Int32) x6 (x7 + (1 : Int32)))
         (lm_bd (F_X6_row hx (1 : Int32) x7 (2 : Int32)) fun r35 =>
         lm_br (¬ r35 = (0 : Int32))
          (F_L_areRows_L93 n hx (0 : Int32) x6 (x7 + (1 : Int32)))
          (F_L_areRows_L93 n hx (1 : Int32) x6 (x7 + (1 : Int32)))))))))
      (lm_gi (((2 : Int32) * x7) + (1 : Int32)) 44
      (lm_br ((hx 9 1 ((((2 : Int32) * x7) + (1 : Int32))).toNatClampNeg) < (hx 9 0 3))
       (lm_br (x5 = 0)
        (F_L_areRows_L93 n hx (0 : Int32) x6 (x7 + (1 : Int32)))
        (lm_bd (F_X6_row hx (1 : Int32) x7 (0 : Int32)) fun r41 =>
        lm_gi ((2 : Int32) * x7) 44
        (lm_br (¬ r41 = (hx 9 1 (((2 : Int32) * x7)).toNatClampNeg))
         (F_L_areRows_L93 n hx (0 : Int32) x6 (x7 + (1 : Int32)))
         (lm_bd (F_X6_row hx (1 : Int32) x7 (1 : Int32)) fun r44 =>
         lm_gi (((2 : Int32) * x7) + (1 : Int32)) 44
         (lm_br (¬ r44 = (hx 9 1 ((((2 : Int32) * x7) + (1 : Int32))).toNatClampNeg))
          (F_L_areRows_L93 n hx (0 : Int32) x6 (x7 + (1 : Int32)))
          (lm_bd (F_X6_row hx (1 : Int32) x7 (2 : Int32)) fun r47 =>
          lm_br (¬ r47 = (0 : Int32))
           (F_L_areRows_L93 n hx (0 : Int32) x6 (x7 + (1 : Int32)))
           (F_L_areRows_L93 n hx (1 : Int32) x6 (x7 + (1 : Int32)))))))))
       (lm_gi (((2 : Int32) * x7) + (1 : Int32)) 44
       (lm_br ((hx 9 0 4) < (hx 9 1 ((((2 : Int32) * x7) + (1 : Int32))).toNatClampNeg))
        (lm_br (x5 = 0)
         (F_L_areRows_L93 n hx (0 : Int32) x6 (x7 + (1 : Int32)))
         (lm_bd (F_X6_row hx (1 : Int32) x7 (0 : Int32)) fun r53 =>
         lm_gi ((2 : Int32) * x7) 44
         (lm_br (¬ r53 = (hx 9 1 (((2 : Int32) * x7)).toNatClampNeg))
          (F_L_areRows_L93 n hx (0 : Int32) x6 (x7 + (1 : Int32)))
          (lm_bd (F_X6_row hx (1 : Int32) x7 (1 : Int32)) fun r56 =>
          lm_gi (((2 : Int32) * x7) + (1 : Int32)) 44
          (lm_br (¬ r56 = (hx 9 1 ((((2 : Int32) * x7) + (1 : Int32))).toNatClampNeg))
           (F_L_areRows_L93 n hx (0 : Int32) x6 (x7 + (1 : Int32)))
           (lm_bd (F_X6_row hx (1 : Int32) x7 (2 : Int32)) fun r59 =>
           lm_br (¬ r59 = (0 : Int32))
            (F_L_areRows_L93 n hx (0 : Int32) x6 (x7 + (1 : Int32)))
            (F_L_areRows_L93 n hx (1 : Int32) x6 (x7 + (1 : Int32)))))))))
        (lm_br (x5 = 0)
         (F_L_areRows_L93 n hx (0 : Int32) x6 (x7 + (1 : Int32)))
         (lm_bd (F_X6_row hx (1 : Int32) x7 (0 : Int32)) fun r63 =>
         lm_gi ((2 : Int32) * x7) 44
         (lm_br (¬ r63 = (hx 9 1 (((2 : Int32) * x7)).toNatClampNeg))
          (F_L_areRows_L93 n hx (0 : Int32) x6 (x7 + (1 : Int32)))
          (lm_bd (F_X6_row hx (1 : Int32) x7 (1 : Int32)) fun r66 =>
          lm_gi (((2 : Int32) * x7) + (1 : Int32)) 44
          (lm_br (¬ r66 = (hx 9 1 ((((2 : Int32) * x7) + (1 : Int32))).toNatClampNeg))
           (F_L_areRows_L93 n hx (0 : Int32) x6 (x7 + (1 : Int32)))
           (lm_bd (F_X6_row hx (1 : Int32) x7 (2 : Int32)) fun r69 =>
           lm_br (¬ r69 = (1 : Int32))
            (F_L_areRows_L93 n hx (0 : Int32) x6 (x7 + (1 : Int32)))
            (F_L_areRows_L93 n hx (1 : Int32) x6 (x7 + (1 : Int32)))))))))))))))
def F_L_areRows (h : Nat → Hp)  : Option Int32 :=
  lm_bd (F_X6_row h (1 : Int32) (h 9 0 5) (0 : Int32)) fun r1 =>
  lm_br (¬ r1 = (-1 : Int32))
   (F_L_areRows_L93 1000 h (0 : Int32) (0 : Int32) (0 : Int32))
   (lm_bd (F_X6_row h (0 : Int32) (h 9 0 6) (0 : Int32)) fun r72 =>
   lm_br (¬ r72 = (-1 : Int32))
    (F_L_areRows_L93 1000 h (0 : Int32) (0 : Int32) (0 : Int32))
    (lm_bd (F_X6_row h (1 : Int32) (-1 : Int32) (0 : Int32)) fun r74 =>
    lm_br (¬ r74 = (-1 : Int32))
     (F_L_areRows_L93 1000 h (0 : Int32) (0 : Int32) (0 : Int32))
     (lm_bd (F_X6_answer h (10 : Int32) (0 : Int32)) fun r76 =>
     lm_br (¬ r76 = (-1 : Int32))
      (F_L_areRows_L93 1000 h (0 : Int32) (0 : Int32) (0 : Int32))
      (lm_bd (F_X6_answer h (0 : Int32) (4 : Int32)) fun r78 =>
      lm_br (¬ r78 = (-1 : Int32))
       (F_L_areRows_L93 1000 h (0 : Int32) (0 : Int32) (0 : Int32))
       (lm_bd (F_X6_remembered h (0 : Int32) (6 : Int32)) fun r80 =>
       lm_br (¬ r80 = (-1 : Int32))
        (F_L_areRows_L93 1000 h (0 : Int32) (0 : Int32) (0 : Int32))
        (lm_bd (F_X6_remembered h (-1 : Int32) (0 : Int32)) fun r82 =>
        lm_br (¬ r82 = (-1 : Int32))
         (F_L_areRows_L93 1000 h (0 : Int32) (0 : Int32) (0 : Int32))
         (F_L_areRows_L93 1000 h (1 : Int32) (0 : Int32) (0 : Int32))))))))
def F_L_areTold_L325 : Nat → (Nat → Hp) → Hp → Int32 → Int32 → Int32 → Option (Int32)
  | 0, _, _, _, _, _ => none
  | n + 1, hx, νx, x10, x11, x12 =>
    lm_br (x12 < 0)
     (some (x11))
     (lm_gi ((2 : Int32) * x12) 44
     (lm_br (¬ (hx 9 1 (((2 : Int32) * x12)).toNatClampNeg) = x10)
      (F_L_areTold_L325 n hx νx x10 x11 (x12 + (-1 : Int32)))
      (lm_gi (((2 : Int32) * x12) + (1 : Int32)) 44
      (lm_br ((hx 9 1 ((((2 : Int32) * x12) + (1 : Int32))).toNatClampNeg) < (hx 9 0 3))
       (F_L_areTold_L325 n hx νx x10 x11 (x12 + (-1 : Int32)))
       (lm_gi (((2 : Int32) * x12) + (1 : Int32)) 44
       (lm_br ((hx 9 0 4) < (hx 9 1 ((((2 : Int32) * x12) + (1 : Int32))).toNatClampNeg))
        (F_L_areTold_L325 n hx νx x10 x11 (x12 + (-1 : Int32)))
        (F_L_areTold_L325 n hx νx x10 x12 (x12 + (-1 : Int32)))))))))
def F_L_areTold_L302 : Nat → (Nat → Hp) → Hp → Int32 → Int32 → Option Int32
  | 0, _, _, _, _ => none
  | n + 1, hx, νx, x7, x10 =>
    lm_br ((10 : Int32) ≤ x10)
     (lm_gd (x7 = 0 ∨ x7 = 1) (some x7))
     (lm_br (x7 = 0)
      (lm_gd (x7 = 0 ∨ x7 = 1) (some x7))
      (lm_bd (F_L_areTold_L325 1000 hx νx x10 (-4 : Int32) ((hx 9 0 5) - (1 : Int32))) fun y18 =>
      lm_bd (F_L_weight (hx 9) x10 (0 : Int32)) fun r19 =>
      lm_bd (F_L_weight (hx 9) x10 (1 : Int32)) fun r20 =>
      lm_bd (F_L_has (lw_f1 (hx 9 3)) x10) fun r21 =>
      lm_bd (F_X6_answer hx x10 (0 : Int32)) fun r22 =>
      lm_br (¬ r22 = (r19 - (2 : Int32)))
       (F_L_areTold_L302 n hx νx (0 : Int32) (x10 + (1 : Int32)))
       (lm_bd (F_X6_answer hx x10 (1 : Int32)) fun r24 =>
       lm_br (¬ r24 = r19)
        (F_L_areTold_L302 n hx νx (0 : Int32) (x10 + (1 : Int32)))
        (lm_bd (F_X6_answer hx x10 (2 : Int32)) fun r26 =>
        lm_br (¬ r26 = r20)
         (F_L_areTold_L302 n hx νx (0 : Int32) (x10 + (1 : Int32)))
         (lm_bd (F_X6_answer hx x10 (3 : Int32)) fun r28 =>
         lm_br (¬ r28 = y18)
          (F_L_areTold_L302 n hx νx (0 : Int32) (x10 + (1 : Int32)))
          (lm_bd (F_X6_remembered hx x10 (0 : Int32)) fun r30 =>
          lm_br (r21 = 0)
           (lm_br (¬ r30 = (-4 : Int32))
            (F_L_areTold_L302 n hx νx (0 : Int32) (x10 + (1 : Int32)))
            (lm_bd (F_X6_remembered hx x10 (1 : Int32)) fun r33 =>
            lm_br (¬ r33 = (-4 : Int32))
             (F_L_areTold_L302 n hx νx (0 : Int32) (x10 + (1 : Int32)))
             (lm_bd (F_X6_remembered hx x10 (2 : Int32)) fun r36 =>
             lm_br (¬ r36 = (-4 : Int32))
              (F_L_areTold_L302 n hx νx (0 : Int32) (x10 + (1 : Int32)))
              (lm_bd (F_X6_remembered hx x10 (3 : Int32)) fun r39 =>
              lm_br (¬ r39 = (-4 : Int32))
               (F_L_areTold_L302 n hx νx (0 : Int32) (x10 + (1 : Int32)))
               (lm_bd (F_X6_remembered hx x10 (4 : Int32)) fun r43 =>
               lm_br (¬ r43 = (-4 : Int32))
                (F_L_areTold_L302 n hx νx (0 : Int32) (x10 + (1 : Int32)))
                (lm_bd (F_X6_remembered hx x10 (5 : Int32)) fun r45 =>
                lm_br (¬ r45 = (-4 : Int32))
                 (F_L_areTold_L302 n hx νx (0 : Int32) (x10 + (1 : Int32)))
                 (F_L_areTold_L302 n hx νx (1 : Int32) (x10 + (1 : Int32)))))))))
           (lm_br (¬ r30 = (r19 - (2 : Int32)))
            (F_L_areTold_L302 n hx νx (0 : Int32) (x10 + (1 : Int32)))
            (lm_bd (F_X6_remembered hx x10 (1 : Int32)) fun r48 =>
            lm_br (¬ r48 = r19)
             (F_L_areTold_L302 n hx νx (0 : Int32) (x10 + (1 : Int32)))
             (lm_bd (F_X6_remembered hx x10 (2 : Int32)) fun r51 =>
             lm_br (¬ r51 = r20)
              (F_L_areTold_L302 n hx νx (0 : Int32) (x10 + (1 : Int32)))
              (lm_bd (F_X6_remembered hx x10 (3 : Int32)) fun r54 =>
              lm_br (¬ r54 = y18)
               (F_L_areTold_L302 n hx νx (0 : Int32) (x10 + (1 : Int32)))
               (F_L_areTold_L302 n hx νx (1 : Int32) (x10 + (1 : Int32)))))))))))))
def F_L_areTold_L217 : Nat → (Nat → Hp) → Hp → Int32 → Int32 → Option Int32
  | 0, _, _, _, _ => none
  | n + 1, hx, νx, x7, x10 =>
    lm_bd (F_L_many (lw_f1 (hx 9 3))) fun r5 =>
    lm_br (r5 ≤ x10)
     (F_L_areTold_L302 1000 hx νx x7 (0 : Int32))
     (lm_br (x7 = 0)
      (F_L_areTold_L302 1000 hx νx x7 (0 : Int32))
      (lm_bd (F_L_first (lw_f4 (hx 9 0) (νx 0) (νx 1) (hx 9 5)) (-1 : Int32)) fun r59 =>
      lm_bd (F_X6_remembered hx r59 (5 : Int32)) fun r60 =>
      lm_br (¬ r60 = x10)
       (lm_bd (F_L_out (lw_f1 (νx 0)) r59) fun τ62 =>
       lm_lt (lm_ua νx 0 (τ62 0)) fun ν63 =>
       lm_bd (F_L_out (lw_f1 (ν63 1)) r59) fun τ64 =>
       lm_lt (lm_ua ν63 1 (τ64 0)) fun ν65 =>
       F_L_areTold_L217 n hx ν65 (0 : Int32) (x10 + (1 : Int32)))
       (lm_bd (F_X6_remembered hx r59 (4 : Int32)) fun r66 =>
       lm_gi r59 10
       (lm_br (¬ r66 = (hx 9 5 r59.toNatClampNeg))
        (lm_bd (F_L_out (lw_f1 (νx 0)) r59) fun τ69 =>
        lm_lt (lm_ua νx 0 (τ69 0)) fun ν70 =>
        lm_bd (F_L_out (lw_f1 (ν70 1)) r59) fun τ71 =>
        lm_lt (lm_ua ν70 1 (τ71 0)) fun ν72 =>
        F_L_areTold_L217 n hx ν72 (0 : Int32) (x10 + (1 : Int32)))
        (lm_bd (F_L_out (lw_f1 (νx 0)) r59) fun τ73 =>
        lm_lt (lm_ua νx 0 (τ73 0)) fun ν74 =>
        lm_bd (F_L_out (lw_f1 (ν74 1)) r59) fun τ75 =>
        lm_lt (lm_ua ν74 1 (τ75 0)) fun ν76 =>
        F_L_areTold_L217 n hx ν76 (1 : Int32) (x10 + (1 : Int32)))))))
def F_L_areTold_L181 : Nat → (Nat → Hp) → Hp → Int32 → Int32 → Option Int32
  | 0, _, _, _, _ => none
  | n + 1, hx, νx, x7, x10 =>
    lm_br ((10 : Int32) ≤ x10)
     (F_L_areTold_L217 1000 hx νx x7 (0 : Int32))
     (lm_gi x10 10
     (lm_gi x10 10
     (lm_lt (lm_u νx 0 (x10.toNatClampNeg) (hx 9 3 x10.toNatClampNeg)) fun σ78 =>
     lm_gi x10 10
     (lm_gi x10 10
     (lm_lt (lm_u σ78 1 (x10.toNatClampNeg) (hx 9 4 x10.toNatClampNeg)) fun σ80 =>
     F_L_areTold_L181 n hx σ80 x7 (x10 + (1 : Int32)))))))
def F_L_areTold_L101 : Nat → (Nat → Hp) → Int32 → Int32 → Option Int32
  | 0, _, _, _ => none
  | n + 1, hx, x7, x8 =>
    lm_br ((9 : Int32) ≤ x8)
     (F_L_areTold_L181 1000 hx (fun _ _ => (0 : Int32)) x7 (0 : Int32))
     (lm_br (x7 = 0)
      (F_L_areTold_L101 n hx (0 : Int32) (x8 + (1 : Int32)))
      (lm_bd (F_X6_count hx ((4 : Int32) + x8)) fun r84 =>
      lm_gi ((7 : Int32) + x8) 16
      (lm_br (¬ r84 = (hx 9 0 (((7 : Int32) + x8)).toNatClampNeg))
       (F_L_areTold_L101 n hx (0 : Int32) (x8 + (1 : Int32)))
       (lm_br ((4 : Int32) < x8)
        (F_L_areTold_L101 n hx (1 : Int32) (x8 + (1 : Int32)))
        (lm_bd (F_X6_count hx ((13 : Int32) + x8)) fun r88 =>
        lm_gi x8 16
        (lm_br (¬ r88 = (hx 9 0 x8.toNatClampNeg))
         (F_L_areTold_L101 n hx (0 : Int32) (x8 + (1 : Int32)))
         (F_L_areTold_L101 n hx (1 : Int32) (x8 + (1 : Int32)))))))))
def F_L_areTold (h : Nat → Hp)  : Option Int32 :=
  lm_bd (F_X6_count h (0 : Int32)) fun r1 =>
  lm_br (¬ r1 = (h 9 0 6))
   (F_L_areTold_L101 1000 h (0 : Int32) (0 : Int32))
   (lm_bd (F_X6_count h (1 : Int32)) fun r91 =>
   lm_br (¬ r91 = (h 9 0 5))
    (F_L_areTold_L101 1000 h (0 : Int32) (0 : Int32))
    (lm_bd (F_X6_count h (2 : Int32)) fun r93 =>
    lm_bd (F_L_many (lw_f1 (h 9 3))) fun r94 =>
    lm_br (¬ r93 = r94)
     (F_L_areTold_L101 1000 h (0 : Int32) (0 : Int32))
     (lm_bd (F_X6_count h (3 : Int32)) fun r96 =>
     lm_bd (F_L_weights (h 9)) fun r97 =>
     lm_br (¬ r96 = r97)
      (F_L_areTold_L101 1000 h (0 : Int32) (0 : Int32))
      (lm_br (¬ ((h 9 0 9) + (h 9 0 10)) = 0)
       (lm_br (¬ (Op.cmpValue (FP.dcmp (rD (h 0 16 0) (h 0 16 1)) (FP.ddiv (FP.i2d (h 9 0 9)) (FP.i2d ((h 9 0 9) + (h 9 0 10))))) .l) = 0)
        (F_L_areTold_L101 1000 h (0 : Int32) (0 : Int32))
        (F_L_areTold_L101 1000 h (1 : Int32) (0 : Int32)))
       (lm_br (¬ (Op.cmpValue (FP.dcmp (rD (h 0 16 0) (h 0 16 1)) FP.dconst0) .l) = 0)
        (F_L_areTold_L101 1000 h (0 : Int32) (0 : Int32))
        (F_L_areTold_L101 1000 h (1 : Int32) (0 : Int32)))))))
