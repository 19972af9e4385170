/- 90.state.lean.txt -/
section pt_90state
/-! CANONICAL WORLDS: the class (addresses a, ints v, rows g, the draft R, the laws ds ys), the reference (addresses b, ints w, rows h) -/
def o10 (a : Nat → Nat) (v : Nat → Int) : Nat → AV := fun k => match k with
  | 0 => rv (a 20)
  | 1 => rv (a 22)
  | 2 => rv (a 29)
  | 3 => rv (a 31)
  | 4 => rv (a 44)
  | 5 => rv (a 42)
  | 6 => rv (a 2)
  | 7 => rv (a 37)
  | 8 => rv (a 3)
  | 9 => rv (a 8)
  | 10 => rv (a 13)
  | 11 => rv (a 43)
  | 12 => iv (v 0)
  | 13 => iv (v 1)
  | 14 => iv (v 2)
  | 15 => iv (v 3)
  | _ => nv
def o6 (a : Nat → Nat) (v : Nat → Int) : Nat → AV := fun k => match k with
  | 0 => rv (a 21)
  | 1 => iv (v 4)
  | _ => nv
def o8 (a : Nat → Nat) (v : Nat → Int) : Nat → AV := fun k => match k with
  | 0 => rv (a 20)
  | 1 => iv (v 5)
  | 2 => iv (v 6)
  | 3 => rv (a 23)
  | 4 => iv (v 7)
  | _ => nv
def o7d (a : Nat → Nat) (v : Nat → Int) : Nat → AV := fun k => match k with
  | 0 => iv (v 8)
  | 1 => iv (v 9)
  | 2 => rv (a 24)
  | 3 => rv (a 25)
  | 4 => rv (a 26)
  | 5 => rv (a 27)
  | 6 => rv (a 28)
  | _ => nv
def o2 (a : Nat → Nat) (v : Nat → Int) : Nat → AV := fun k => match k with
  | 0 => rv (a 20)
  | 1 => iv (v 10)
  | 2 => iv (v 11)
  | 3 => rv (a 30)
  | 4 => iv (v 12)
  | _ => nv
def o7w (a : Nat → Nat) (v : Nat → Int) : Nat → AV := fun k => match k with
  | 0 => iv (v 13)
  | 1 => iv (v 14)
  | 2 => rv (a 32)
  | 3 => rv (a 33)
  | 4 => rv (a 34)
  | 5 => rv (a 35)
  | 6 => rv (a 36)
  | _ => nv
def o5s (a : Nat → Nat) (v : Nat → Int) : Nat → AV := fun k => match k with
  | 0 => iv (v 13)
  | 1 => iv (v 21)
  | 2 => iv (v 22)
  | 3 => iv (v 23)
  | 4 => rv (a 38)
  | 5 => rv (a 39)
  | 6 => rv (a 40)
  | 7 => rv (a 41)
  | _ => nv
def o0 (a : Nat → Nat) (v : Nat → Int) : Nat → AV := fun k => match k with
  | 0 => iv (v 15)
  | 1 => iv (v 16)
  | 2 => iv (v 17)
  | 3 => iv (v 18)
  | 4 => iv (v 19)
  | 5 => rv (a 0)
  | 6 => rv (a 1)
  | _ => nv
def o5t (a : Nat → Nat) (v : Nat → Int) : Nat → AV := fun k => match k with
  | 0 => iv (v 24)
  | 1 => iv (v 25)
  | 2 => iv (v 26)
  | 3 => iv (v 27)
  | 4 => rv (a 4)
  | 5 => rv (a 5)
  | 6 => rv (a 6)
  | 7 => rv (a 7)
  | _ => nv
def o4 (a : Nat → Nat) (v : Nat → Int) : Nat → AV := fun k => match k with
  | 0 => rv (a 9)
  | 1 => rv (a 10)
  | 2 => rv (a 11)
  | 3 => rv (a 12)
  | 4 => iv (v 28)
  | 5 => iv (v 29)
  | 6 => iv (v 30)
  | 7 => iv (v 31)
  | 8 => iv (v 32)
  | _ => nv
def o3 (a : Nat → Nat) (v : Nat → Int) : Nat → AV := fun k => match k with
  | 0 => iv (v 33)
  | 1 => iv (v 34)
  | 2 => rv (a 14)
  | 3 => rv (a 15)
  | 4 => rv (a 16)
  | _ => nv
def o9 (a : Nat → Nat) (v : Nat → Int) : Nat → AV := fun k => match k with
  | 0 => iv (v 35)
  | 1 => iv (v 36)
  | 2 => iv (v 37)
  | 3 => rv (a 8)
  | 4 => rv (a 3)
  | 5 => rv (a 17)
  | 6 => rv (a 18)
  | _ => nv
def o11 (b : Nat → Nat) (w : Nat → Int) : Nat → AV := fun k => match k with
  | 0 => iv (w 0)
  | 1 => rv (b 1)
  | 2 => iv (w 2)
  | 3 => iv (w 3)
  | 4 => iv (w 4)
  | 5 => iv (w 5)
  | 6 => rv (b 6)
  | 7 => rv (b 7)
  | 8 => rv (b 8)
  | 9 => rv (b 9)
  | 10 => rv (b 10)
  | 11 => rv (b 11)
  | 12 => rv (b 12)
  | 13 => iv (w 13)
  | 14 => iv (w 14)
  | 15 => rv (b 15)
  | 16 => rv (b 16)
  | 17 => rv (b 17)
  | 18 => iv (w 18)
  | 19 => iv (w 19)
  | 20 => rv (b 20)
  | 21 => iv (w 21)
  | 22 => iv (w 22)
  | 23 => rv (b 23)
  | 24 => rv (b 24)
  | 25 => iv (w 25)
  | 26 => iv (w 26)
  | 27 => iv (w 27)
  | 28 => iv (w 28)
  | 29 => iv (w 29)
  | 30 => iv (w 30)
  | 31 => rv (b 31)
  | 32 => iv (w 32)
  | 33 => rv (b 33)
  | 34 => rv (b 34)
  | 35 => rv (b 35)
  | 36 => rv (b 36)
  | 37 => rv (b 37)
  | 38 => iv (w 38)
  | 39 => iv (w 39)
  | 40 => rv (b 40)
  | 41 => rv (b 41)
  | 42 => rv (b 42)
  | 43 => rv (b 43)
  | 44 => rv (b 44)
  | 45 => rv (b 45)
  | 46 => iv (w 46)
  | 47 => rv (b 47)
  | 48 => iv (w 48)
  | 49 => iv (w 49)
  | _ => nv
abbrev CF (a : Nat → Nat) (v : Nat → Int) (g : Nat → Int → Int) (R : Int → Int → Int) (ds : List LwS) : EW := [(a 0, ar 6 (g 0)), (a 1, ar 360 (g 1)), (a 2, ar 60 (g 2)), (a 3, ob 5 (o5t a v)), (a 4, ar 6 (g 4)), (a 5, ar 6 (g 5)), (a 6, ar 6 (g 6)), (a 7, ar 6 (g 7)), (a 8, ob 4 (o4 a v)), (a 9, ar 1206 (g 9)), (a 10, ar 180 (g 10)), (a 11, ar 6 (g 11)), (a 12, ar 30 (g 12)), (a 13, ob 3 (o3 a v)), (a 14, ar 31 (g 14)), (a 15, ar 31 (g 15)), (a 16, ar 6 (g 16)), (a 17, ar 6 (g 17)), (a 18, ar 42 (g 18)), (a 19, ob 10 (o10 a v)), (a 20, ob 6 (o6 a v)), (a 21, ar 160 (g 21)), (a 22, ob 8 (o8 a v)), (a 23, ob 7 (o7d a v)), (a 24, ar 6 (colR R 0)), (a 25, ar 6 (colR R 1)), (a 26, ar 6 (colR R 2)), (a 27, ar 6 (colR R 3)), (a 28, ar 6 (colR R 4)), (a 29, ob 2 (o2 a v)), (a 30, ar 160 (g 30)), (a 31, ob 7 (o7w a v)), (a 32, ar 6 (g 32)), (a 33, ar 6 (g 33)), (a 34, ar 6 (g 34)), (a 35, ar 6 (g 35)), (a 36, ar 6 (g 36)), (a 37, ob 5 (o5s a v)), (a 38, ar 6 (g 38)), (a 39, ar 6 (g 39)), (a 40, ar 6 (g 40)), (a 41, ar 6 (g 41)), (a 42, ob 0 (o0 a v)), (a 43, ob 9 (o9 a v)), (a 44, aq 4 (lwR ds))]
def cellF (a : Nat → Nat) (v : Nat → Int) (g : Nat → Int → Int) (R : Int → Int → Int) (ds : List LwS) (i : Nat) : Nat × EE := match i with
  | 0 => (a 0, ar 6 (g 0))
  | 1 => (a 1, ar 360 (g 1))
  | 2 => (a 2, ar 60 (g 2))
  | 3 => (a 3, ob 5 (o5t a v))
  | 4 => (a 4, ar 6 (g 4))
  | 5 => (a 5, ar 6 (g 5))
  | 6 => (a 6, ar 6 (g 6))
  | 7 => (a 7, ar 6 (g 7))
  | 8 => (a 8, ob 4 (o4 a v))
  | 9 => (a 9, ar 1206 (g 9))
  | 10 => (a 10, ar 180 (g 10))
  | 11 => (a 11, ar 6 (g 11))
  | 12 => (a 12, ar 30 (g 12))
  | 13 => (a 13, ob 3 (o3 a v))
  | 14 => (a 14, ar 31 (g 14))
  | 15 => (a 15, ar 31 (g 15))
  | 16 => (a 16, ar 6 (g 16))
  | 17 => (a 17, ar 6 (g 17))
  | 18 => (a 18, ar 42 (g 18))
  | 19 => (a 19, ob 10 (o10 a v))
  | 20 => (a 20, ob 6 (o6 a v))
  | 21 => (a 21, ar 160 (g 21))
  | 22 => (a 22, ob 8 (o8 a v))
  | 23 => (a 23, ob 7 (o7d a v))
  | 24 => (a 24, ar 6 (colR R 0))
  | 25 => (a 25, ar 6 (colR R 1))
  | 26 => (a 26, ar 6 (colR R 2))
  | 27 => (a 27, ar 6 (colR R 3))
  | 28 => (a 28, ar 6 (colR R 4))
  | 29 => (a 29, ob 2 (o2 a v))
  | 30 => (a 30, ar 160 (g 30))
  | 31 => (a 31, ob 7 (o7w a v))
  | 32 => (a 32, ar 6 (g 32))
  | 33 => (a 33, ar 6 (g 33))
  | 34 => (a 34, ar 6 (g 34))
  | 35 => (a 35, ar 6 (g 35))
  | 36 => (a 36, ar 6 (g 36))
  | 37 => (a 37, ob 5 (o5s a v))
  | 38 => (a 38, ar 6 (g 38))
  | 39 => (a 39, ar 6 (g 39))
  | 40 => (a 40, ar 6 (g 40))
  | 41 => (a 41, ar 6 (g 41))
  | 42 => (a 42, ob 0 (o0 a v))
  | 43 => (a 43, ob 9 (o9 a v))
  | 44 => (a 44, aq 4 (lwR ds))
  | _ => (0, ar 0 (g 0))
theorem CF_at (a : Nat → Nat) (v : Nat → Int) (g : Nat → Int → Int) (R : Int → Int → Int) (ds : List LwS) : ∀ i, i < 45 → (CF a v g R ds)[i]? = some (cellF a v g R ds i) := fun i hi => match i, hi with
  | 0, _ => rfl
  | 1, _ => rfl
  | 2, _ => rfl
  | 3, _ => rfl
  | 4, _ => rfl
  | 5, _ => rfl
  | 6, _ => rfl
  | 7, _ => rfl
  | 8, _ => rfl
  | 9, _ => rfl
  | 10, _ => rfl
  | 11, _ => rfl
  | 12, _ => rfl
  | 13, _ => rfl
  | 14, _ => rfl
  | 15, _ => rfl
  | 16, _ => rfl
  | 17, _ => rfl
  | 18, _ => rfl
  | 19, _ => rfl
  | 20, _ => rfl
  | 21, _ => rfl
  | 22, _ => rfl
  | 23, _ => rfl
  | 24, _ => rfl
  | 25, _ => rfl
  | 26, _ => rfl
  | 27, _ => rfl
  | 28, _ => rfl
  | 29, _ => rfl
  | 30, _ => rfl
  | 31, _ => rfl
  | 32, _ => rfl
  | 33, _ => rfl
  | 34, _ => rfl
  | 35, _ => rfl
  | 36, _ => rfl
  | 37, _ => rfl
  | 38, _ => rfl
  | 39, _ => rfl
  | 40, _ => rfl
  | 41, _ => rfl
  | 42, _ => rfl
  | 43, _ => rfl
  | 44, _ => rfl
  | n + 45, h9 => absurd h9 (by omega)
theorem CF_rest {a : Nat → Nat} {v v2 : Nat → Int} {g g2 : Nat → Int → Int} {R R2 : Int → Int → Int} {ds ds2 : List LwS} {is : List Nat} (hlt : ∀ i ∈ is, i < 45) (hh : is.map (cellF a v2 g2 R2 ds2) = is.map (cellF a v g R ds)) : is.map (fun i => (CF a v2 g2 R2 ds2)[i]?) = is.map (fun i => (CF a v g R ds)[i]?) := by
  have e1 : is.map (fun i => (CF a v2 g2 R2 ds2)[i]?) = (is.map (cellF a v2 g2 R2 ds2)).map some := by rw [List.map_map]; exact List.map_congr_left (fun i hi => CF_at _ _ _ _ _ i (hlt i hi))
  have e2 : is.map (fun i => (CF a v g R ds)[i]?) = (is.map (cellF a v g R ds)).map some := by rw [List.map_map]; exact List.map_congr_left (fun i hi => CF_at _ _ _ _ _ i (hlt i hi))
  rw [e1, e2, hh]
abbrev CW (a : Nat → Nat) (v : Nat → Int) (g : Nat → Int → Int) (R : Int → Int → Int) (ds : List LwS) (ys : Nat → LwY) : EW := CF a v g R ds ++ lwT ds ys
abbrev RW (b : Nat → Nat) (w : Nat → Int) (h : Nat → Int → Int) : EW := [(b 0, ob 11 (o11 b w)), (b 1, ar 160 (h 1)), (b 6, ar 1700 (h 6)), (b 7, ar 1700 (h 7)), (b 8, ar 5 (h 8)), (b 9, ar 5 (h 9)), (b 10, ar 450 (h 10)), (b 11, ar 450 (h 11)), (b 12, ar 450 (h 12)), (b 15, ar 5 (h 15)), (b 16, ar 80 (h 16)), (b 17, ar 30 (h 17)), (b 20, ar 30 (h 20)), (b 23, ar 6 (h 23)), (b 24, ar 6 (h 24)), (b 31, ar 360 (h 31)), (b 33, ar 1206 (h 33)), (b 34, ar 180 (h 34)), (b 35, ar 180 (h 35)), (b 36, ar 42 (h 36)), (b 37, ar 6 (h 37)), (b 40, ar 31 (h 40)), (b 41, ar 31 (h 41)), (b 42, ar 6 (h 42)), (b 43, ar 20 (h 43)), (b 44, ar 20 (h 44)), (b 45, ar 20 (h 45)), (b 47, ar 6 (h 47))]
def cellR (b : Nat → Nat) (w : Nat → Int) (h : Nat → Int → Int) (i : Nat) : Nat × EE := match i with
  | 0 => (b 0, ob 11 (o11 b w))
  | 1 => (b 1, ar 160 (h 1))
  | 2 => (b 6, ar 1700 (h 6))
  | 3 => (b 7, ar 1700 (h 7))
  | 4 => (b 8, ar 5 (h 8))
  | 5 => (b 9, ar 5 (h 9))
  | 6 => (b 10, ar 450 (h 10))
  | 7 => (b 11, ar 450 (h 11))
  | 8 => (b 12, ar 450 (h 12))
  | 9 => (b 15, ar 5 (h 15))
  | 10 => (b 16, ar 80 (h 16))
  | 11 => (b 17, ar 30 (h 17))
  | 12 => (b 20, ar 30 (h 20))
  | 13 => (b 23, ar 6 (h 23))
  | 14 => (b 24, ar 6 (h 24))
  | 15 => (b 31, ar 360 (h 31))
  | 16 => (b 33, ar 1206 (h 33))
  | 17 => (b 34, ar 180 (h 34))
  | 18 => (b 35, ar 180 (h 35))
  | 19 => (b 36, ar 42 (h 36))
  | 20 => (b 37, ar 6 (h 37))
  | 21 => (b 40, ar 31 (h 40))
  | 22 => (b 41, ar 31 (h 41))
  | 23 => (b 42, ar 6 (h 42))
  | 24 => (b 43, ar 20 (h 43))
  | 25 => (b 44, ar 20 (h 44))
  | 26 => (b 45, ar 20 (h 45))
  | 27 => (b 47, ar 6 (h 47))
  | _ => (0, ar 0 (h 0))
theorem RW_at (b : Nat → Nat) (w : Nat → Int) (h : Nat → Int → Int) : ∀ i, i < 28 → (RW b w h)[i]? = some (cellR b w h i) := fun i hi => match i, hi with
  | 0, _ => rfl
  | 1, _ => rfl
  | 2, _ => rfl
  | 3, _ => rfl
  | 4, _ => rfl
  | 5, _ => rfl
  | 6, _ => rfl
  | 7, _ => rfl
  | 8, _ => rfl
  | 9, _ => rfl
  | 10, _ => rfl
  | 11, _ => rfl
  | 12, _ => rfl
  | 13, _ => rfl
  | 14, _ => rfl
  | 15, _ => rfl
  | 16, _ => rfl
  | 17, _ => rfl
  | 18, _ => rfl
  | 19, _ => rfl
  | 20, _ => rfl
  | 21, _ => rfl
  | 22, _ => rfl
  | 23, _ => rfl
  | 24, _ => rfl
  | 25, _ => rfl
  | 26, _ => rfl
  | 27, _ => rfl
  | n + 28, h9 => absurd h9 (by omega)
theorem RW_rest {b : Nat → Nat} {w w2 : Nat → Int} {h h2 : Nat → Int → Int} {is : List Nat} (hlt : ∀ i ∈ is, i < 28) (hh : is.map (cellR b w2 h2) = is.map (cellR b w h)) : is.map (fun i => (RW b w2 h2)[i]?) = is.map (fun i => (RW b w h)[i]?) := by
  have e1 : is.map (fun i => (RW b w2 h2)[i]?) = (is.map (cellR b w2 h2)).map some := by rw [List.map_map]; exact List.map_congr_left (fun i hi => RW_at _ _ _ i (hlt i hi))
  have e2 : is.map (fun i => (RW b w h)[i]?) = (is.map (cellR b w h)).map some := by rw [List.map_map]; exact List.map_congr_left (fun i hi => RW_at _ _ _ i (hlt i hi))
  rw [e1, e2, hh]
theorem uF_self {α : Type} {f : Nat → α} {k : Nat} : uF f k (f k) = f := uF_id2 rfl
theorem Po10_12 (a : Nat → Nat) (v : Nat → Int) (x : Int) : uF (o10 a v) 12 (iv x) = o10 a (uF v 0 x) := funext (fun j => match j with
  | 0 => rfl
  | 1 => rfl
  | 2 => rfl
  | 3 => rfl
  | 4 => rfl
  | 5 => rfl
  | 6 => rfl
  | 7 => rfl
  | 8 => rfl
  | 9 => rfl
  | 10 => rfl
  | 11 => rfl
  | 12 => rfl
  | 13 => rfl
  | 14 => rfl
  | 15 => rfl
  | n + 16 => by rw [show uF (o10 a v) 12 (iv x) (n + 16) = o10 a v (n + 16) from if_neg (by omega)]; rfl)
theorem Po10_13 (a : Nat → Nat) (v : Nat → Int) (x : Int) : uF (o10 a v) 13 (iv x) = o10 a (uF v 1 x) := funext (fun j => match j with
  | 0 => rfl
  | 1 => rfl
  | 2 => rfl
  | 3 => rfl
  | 4 => rfl
  | 5 => rfl
  | 6 => rfl
  | 7 => rfl
  | 8 => rfl
  | 9 => rfl
  | 10 => rfl
  | 11 => rfl
  | 12 => rfl
  | 13 => rfl
  | 14 => rfl
  | 15 => rfl
  | n + 16 => by rw [show uF (o10 a v) 13 (iv x) (n + 16) = o10 a v (n + 16) from if_neg (by omega)]; rfl)
theorem Po10_14 (a : Nat → Nat) (v : Nat → Int) (x : Int) : uF (o10 a v) 14 (iv x) = o10 a (uF v 2 x) := funext (fun j => match j with
  | 0 => rfl
  | 1 => rfl
  | 2 => rfl
  | 3 => rfl
  | 4 => rfl
  | 5 => rfl
  | 6 => rfl
  | 7 => rfl
  | 8 => rfl
  | 9 => rfl
  | 10 => rfl
  | 11 => rfl
  | 12 => rfl
  | 13 => rfl
  | 14 => rfl
  | 15 => rfl
  | n + 16 => by rw [show uF (o10 a v) 14 (iv x) (n + 16) = o10 a v (n + 16) from if_neg (by omega)]; rfl)
theorem Po10_15 (a : Nat → Nat) (v : Nat → Int) (x : Int) : uF (o10 a v) 15 (iv x) = o10 a (uF v 3 x) := funext (fun j => match j with
  | 0 => rfl
  | 1 => rfl
  | 2 => rfl
  | 3 => rfl
  | 4 => rfl
  | 5 => rfl
  | 6 => rfl
  | 7 => rfl
  | 8 => rfl
  | 9 => rfl
  | 10 => rfl
  | 11 => rfl
  | 12 => rfl
  | 13 => rfl
  | 14 => rfl
  | 15 => rfl
  | n + 16 => by rw [show uF (o10 a v) 15 (iv x) (n + 16) = o10 a v (n + 16) from if_neg (by omega)]; rfl)
theorem Po6_1 (a : Nat → Nat) (v : Nat → Int) (x : Int) : uF (o6 a v) 1 (iv x) = o6 a (uF v 4 x) := funext (fun j => match j with
  | 0 => rfl
  | 1 => rfl
  | n + 2 => by rw [show uF (o6 a v) 1 (iv x) (n + 2) = o6 a v (n + 2) from if_neg (by omega)]; rfl)
theorem Po8_1 (a : Nat → Nat) (v : Nat → Int) (x : Int) : uF (o8 a v) 1 (iv x) = o8 a (uF v 5 x) := funext (fun j => match j with
  | 0 => rfl
  | 1 => rfl
  | 2 => rfl
  | 3 => rfl
  | 4 => rfl
  | n + 5 => by rw [show uF (o8 a v) 1 (iv x) (n + 5) = o8 a v (n + 5) from if_neg (by omega)]; rfl)
theorem Po8_2 (a : Nat → Nat) (v : Nat → Int) (x : Int) : uF (o8 a v) 2 (iv x) = o8 a (uF v 6 x) := funext (fun j => match j with
  | 0 => rfl
  | 1 => rfl
  | 2 => rfl
  | 3 => rfl
  | 4 => rfl
  | n + 5 => by rw [show uF (o8 a v) 2 (iv x) (n + 5) = o8 a v (n + 5) from if_neg (by omega)]; rfl)
theorem Po8_4 (a : Nat → Nat) (v : Nat → Int) (x : Int) : uF (o8 a v) 4 (iv x) = o8 a (uF v 7 x) := funext (fun j => match j with
  | 0 => rfl
  | 1 => rfl
  | 2 => rfl
  | 3 => rfl
  | 4 => rfl
  | n + 5 => by rw [show uF (o8 a v) 4 (iv x) (n + 5) = o8 a v (n + 5) from if_neg (by omega)]; rfl)
theorem Po7d_0 (a : Nat → Nat) (v : Nat → Int) (x : Int) : uF (o7d a v) 0 (iv x) = o7d a (uF v 8 x) := funext (fun j => match j with
  | 0 => rfl
  | 1 => rfl
  | 2 => rfl
  | 3 => rfl
  | 4 => rfl
  | 5 => rfl
  | 6 => rfl
  | n + 7 => by rw [show uF (o7d a v) 0 (iv x) (n + 7) = o7d a v (n + 7) from if_neg (by omega)]; rfl)
theorem Po7d_1 (a : Nat → Nat) (v : Nat → Int) (x : Int) : uF (o7d a v) 1 (iv x) = o7d a (uF v 9 x) := funext (fun j => match j with
  | 0 => rfl
  | 1 => rfl
  | 2 => rfl
  | 3 => rfl
  | 4 => rfl
  | 5 => rfl
  | 6 => rfl
  | n + 7 => by rw [show uF (o7d a v) 1 (iv x) (n + 7) = o7d a v (n + 7) from if_neg (by omega)]; rfl)
theorem Po2_1 (a : Nat → Nat) (v : Nat → Int) (x : Int) : uF (o2 a v) 1 (iv x) = o2 a (uF v 10 x) := funext (fun j => match j with
  | 0 => rfl
  | 1 => rfl
  | 2 => rfl
  | 3 => rfl
  | 4 => rfl
  | n + 5 => by rw [show uF (o2 a v) 1 (iv x) (n + 5) = o2 a v (n + 5) from if_neg (by omega)]; rfl)
theorem Po2_2 (a : Nat → Nat) (v : Nat → Int) (x : Int) : uF (o2 a v) 2 (iv x) = o2 a (uF v 11 x) := funext (fun j => match j with
  | 0 => rfl
  | 1 => rfl
  | 2 => rfl
  | 3 => rfl
  | 4 => rfl
  | n + 5 => by rw [show uF (o2 a v) 2 (iv x) (n + 5) = o2 a v (n + 5) from if_neg (by omega)]; rfl)
theorem Po2_4 (a : Nat → Nat) (v : Nat → Int) (x : Int) : uF (o2 a v) 4 (iv x) = o2 a (uF v 12 x) := funext (fun j => match j with
  | 0 => rfl
  | 1 => rfl
  | 2 => rfl
  | 3 => rfl
  | 4 => rfl
  | n + 5 => by rw [show uF (o2 a v) 4 (iv x) (n + 5) = o2 a v (n + 5) from if_neg (by omega)]; rfl)
theorem Po7w_0 (a : Nat → Nat) (v : Nat → Int) (x : Int) : uF (o7w a v) 0 (iv x) = o7w a (uF v 13 x) := funext (fun j => match j with
  | 0 => rfl
  | 1 => rfl
  | 2 => rfl
  | 3 => rfl
  | 4 => rfl
  | 5 => rfl
  | 6 => rfl
  | n + 7 => by rw [show uF (o7w a v) 0 (iv x) (n + 7) = o7w a v (n + 7) from if_neg (by omega)]; rfl)
theorem Po7w_1 (a : Nat → Nat) (v : Nat → Int) (x : Int) : uF (o7w a v) 1 (iv x) = o7w a (uF v 14 x) := funext (fun j => match j with
  | 0 => rfl
  | 1 => rfl
  | 2 => rfl
  | 3 => rfl
  | 4 => rfl
  | 5 => rfl
  | 6 => rfl
  | n + 7 => by rw [show uF (o7w a v) 1 (iv x) (n + 7) = o7w a v (n + 7) from if_neg (by omega)]; rfl)
theorem Po5s_0 (a : Nat → Nat) (v : Nat → Int) (x : Int) : uF (o5s a v) 0 (iv x) = o5s a (uF v 13 x) := funext (fun j => match j with
  | 0 => rfl
  | 1 => rfl
  | 2 => rfl
  | 3 => rfl
  | 4 => rfl
  | 5 => rfl
  | 6 => rfl
  | 7 => rfl
  | n + 8 => by rw [show uF (o5s a v) 0 (iv x) (n + 8) = o5s a v (n + 8) from if_neg (by omega)]; rfl)
theorem Po5s_1 (a : Nat → Nat) (v : Nat → Int) (x : Int) : uF (o5s a v) 1 (iv x) = o5s a (uF v 21 x) := funext (fun j => match j with
  | 0 => rfl
  | 1 => rfl
  | 2 => rfl
  | 3 => rfl
  | 4 => rfl
  | 5 => rfl
  | 6 => rfl
  | 7 => rfl
  | n + 8 => by rw [show uF (o5s a v) 1 (iv x) (n + 8) = o5s a v (n + 8) from if_neg (by omega)]; rfl)
theorem Po5s_2 (a : Nat → Nat) (v : Nat → Int) (x : Int) : uF (o5s a v) 2 (iv x) = o5s a (uF v 22 x) := funext (fun j => match j with
  | 0 => rfl
  | 1 => rfl
  | 2 => rfl
  | 3 => rfl
  | 4 => rfl
  | 5 => rfl
  | 6 => rfl
  | 7 => rfl
  | n + 8 => by rw [show uF (o5s a v) 2 (iv x) (n + 8) = o5s a v (n + 8) from if_neg (by omega)]; rfl)
theorem Po5s_3 (a : Nat → Nat) (v : Nat → Int) (x : Int) : uF (o5s a v) 3 (iv x) = o5s a (uF v 23 x) := funext (fun j => match j with
  | 0 => rfl
  | 1 => rfl
  | 2 => rfl
  | 3 => rfl
  | 4 => rfl
  | 5 => rfl
  | 6 => rfl
  | 7 => rfl
  | n + 8 => by rw [show uF (o5s a v) 3 (iv x) (n + 8) = o5s a v (n + 8) from if_neg (by omega)]; rfl)
theorem Po0_0 (a : Nat → Nat) (v : Nat → Int) (x : Int) : uF (o0 a v) 0 (iv x) = o0 a (uF v 15 x) := funext (fun j => match j with
  | 0 => rfl
  | 1 => rfl
  | 2 => rfl
  | 3 => rfl
  | 4 => rfl
  | 5 => rfl
  | 6 => rfl
  | n + 7 => by rw [show uF (o0 a v) 0 (iv x) (n + 7) = o0 a v (n + 7) from if_neg (by omega)]; rfl)
theorem Po0_1 (a : Nat → Nat) (v : Nat → Int) (x : Int) : uF (o0 a v) 1 (iv x) = o0 a (uF v 16 x) := funext (fun j => match j with
  | 0 => rfl
  | 1 => rfl
  | 2 => rfl
  | 3 => rfl
  | 4 => rfl
  | 5 => rfl
  | 6 => rfl
  | n + 7 => by rw [show uF (o0 a v) 1 (iv x) (n + 7) = o0 a v (n + 7) from if_neg (by omega)]; rfl)
theorem Po0_2 (a : Nat → Nat) (v : Nat → Int) (x : Int) : uF (o0 a v) 2 (iv x) = o0 a (uF v 17 x) := funext (fun j => match j with
  | 0 => rfl
  | 1 => rfl
  | 2 => rfl
  | 3 => rfl
  | 4 => rfl
  | 5 => rfl
  | 6 => rfl
  | n + 7 => by rw [show uF (o0 a v) 2 (iv x) (n + 7) = o0 a v (n + 7) from if_neg (by omega)]; rfl)
theorem Po0_3 (a : Nat → Nat) (v : Nat → Int) (x : Int) : uF (o0 a v) 3 (iv x) = o0 a (uF v 18 x) := funext (fun j => match j with
  | 0 => rfl
  | 1 => rfl
  | 2 => rfl
  | 3 => rfl
  | 4 => rfl
  | 5 => rfl
  | 6 => rfl
  | n + 7 => by rw [show uF (o0 a v) 3 (iv x) (n + 7) = o0 a v (n + 7) from if_neg (by omega)]; rfl)
theorem Po0_4 (a : Nat → Nat) (v : Nat → Int) (x : Int) : uF (o0 a v) 4 (iv x) = o0 a (uF v 19 x) := funext (fun j => match j with
  | 0 => rfl
  | 1 => rfl
  | 2 => rfl
  | 3 => rfl
  | 4 => rfl
  | 5 => rfl
  | 6 => rfl
  | n + 7 => by rw [show uF (o0 a v) 4 (iv x) (n + 7) = o0 a v (n + 7) from if_neg (by omega)]; rfl)
theorem Po5t_0 (a : Nat → Nat) (v : Nat → Int) (x : Int) : uF (o5t a v) 0 (iv x) = o5t a (uF v 24 x) := funext (fun j => match j with
  | 0 => rfl
  | 1 => rfl
  | 2 => rfl
  | 3 => rfl
  | 4 => rfl
  | 5 => rfl
  | 6 => rfl
  | 7 => rfl
  | n + 8 => by rw [show uF (o5t a v) 0 (iv x) (n + 8) = o5t a v (n + 8) from if_neg (by omega)]; rfl)
theorem Po5t_1 (a : Nat → Nat) (v : Nat → Int) (x : Int) : uF (o5t a v) 1 (iv x) = o5t a (uF v 25 x) := funext (fun j => match j with
  | 0 => rfl
  | 1 => rfl
  | 2 => rfl
  | 3 => rfl
  | 4 => rfl
  | 5 => rfl
  | 6 => rfl
  | 7 => rfl
  | n + 8 => by rw [show uF (o5t a v) 1 (iv x) (n + 8) = o5t a v (n + 8) from if_neg (by omega)]; rfl)
theorem Po5t_2 (a : Nat → Nat) (v : Nat → Int) (x : Int) : uF (o5t a v) 2 (iv x) = o5t a (uF v 26 x) := funext (fun j => match j with
  | 0 => rfl
  | 1 => rfl
  | 2 => rfl
  | 3 => rfl
  | 4 => rfl
  | 5 => rfl
  | 6 => rfl
  | 7 => rfl
  | n + 8 => by rw [show uF (o5t a v) 2 (iv x) (n + 8) = o5t a v (n + 8) from if_neg (by omega)]; rfl)
theorem Po5t_3 (a : Nat → Nat) (v : Nat → Int) (x : Int) : uF (o5t a v) 3 (iv x) = o5t a (uF v 27 x) := funext (fun j => match j with
  | 0 => rfl
  | 1 => rfl
  | 2 => rfl
  | 3 => rfl
  | 4 => rfl
  | 5 => rfl
  | 6 => rfl
  | 7 => rfl
  | n + 8 => by rw [show uF (o5t a v) 3 (iv x) (n + 8) = o5t a v (n + 8) from if_neg (by omega)]; rfl)
theorem Po4_4 (a : Nat → Nat) (v : Nat → Int) (x : Int) : uF (o4 a v) 4 (iv x) = o4 a (uF v 28 x) := funext (fun j => match j with
  | 0 => rfl
  | 1 => rfl
  | 2 => rfl
  | 3 => rfl
  | 4 => rfl
  | 5 => rfl
  | 6 => rfl
  | 7 => rfl
  | 8 => rfl
  | n + 9 => by rw [show uF (o4 a v) 4 (iv x) (n + 9) = o4 a v (n + 9) from if_neg (by omega)]; rfl)
theorem Po4_5 (a : Nat → Nat) (v : Nat → Int) (x : Int) : uF (o4 a v) 5 (iv x) = o4 a (uF v 29 x) := funext (fun j => match j with
  | 0 => rfl
  | 1 => rfl
  | 2 => rfl
  | 3 => rfl
  | 4 => rfl
  | 5 => rfl
  | 6 => rfl
  | 7 => rfl
  | 8 => rfl
  | n + 9 => by rw [show uF (o4 a v) 5 (iv x) (n + 9) = o4 a v (n + 9) from if_neg (by omega)]; rfl)
theorem Po4_6 (a : Nat → Nat) (v : Nat → Int) (x : Int) : uF (o4 a v) 6 (iv x) = o4 a (uF v 30 x) := funext (fun j => match j with
  | 0 => rfl
  | 1 => rfl
  | 2 => rfl
  | 3 => rfl
  | 4 => rfl
  | 5 => rfl
  | 6 => rfl
  | 7 => rfl
  | 8 => rfl
  | n + 9 => by rw [show uF (o4 a v) 6 (iv x) (n + 9) = o4 a v (n + 9) from if_neg (by omega)]; rfl)
theorem Po4_7 (a : Nat → Nat) (v : Nat → Int) (x : Int) : uF (o4 a v) 7 (iv x) = o4 a (uF v 31 x) := funext (fun j => match j with
  | 0 => rfl
  | 1 => rfl
  | 2 => rfl
  | 3 => rfl
  | 4 => rfl
  | 5 => rfl
  | 6 => rfl
  | 7 => rfl
  | 8 => rfl
  | n + 9 => by rw [show uF (o4 a v) 7 (iv x) (n + 9) = o4 a v (n + 9) from if_neg (by omega)]; rfl)
theorem Po4_8 (a : Nat → Nat) (v : Nat → Int) (x : Int) : uF (o4 a v) 8 (iv x) = o4 a (uF v 32 x) := funext (fun j => match j with
  | 0 => rfl
  | 1 => rfl
  | 2 => rfl
  | 3 => rfl
  | 4 => rfl
  | 5 => rfl
  | 6 => rfl
  | 7 => rfl
  | 8 => rfl
  | n + 9 => by rw [show uF (o4 a v) 8 (iv x) (n + 9) = o4 a v (n + 9) from if_neg (by omega)]; rfl)
theorem Po3_0 (a : Nat → Nat) (v : Nat → Int) (x : Int) : uF (o3 a v) 0 (iv x) = o3 a (uF v 33 x) := funext (fun j => match j with
  | 0 => rfl
  | 1 => rfl
  | 2 => rfl
  | 3 => rfl
  | 4 => rfl
  | n + 5 => by rw [show uF (o3 a v) 0 (iv x) (n + 5) = o3 a v (n + 5) from if_neg (by omega)]; rfl)
theorem Po3_1 (a : Nat → Nat) (v : Nat → Int) (x : Int) : uF (o3 a v) 1 (iv x) = o3 a (uF v 34 x) := funext (fun j => match j with
  | 0 => rfl
  | 1 => rfl
  | 2 => rfl
  | 3 => rfl
  | 4 => rfl
  | n + 5 => by rw [show uF (o3 a v) 1 (iv x) (n + 5) = o3 a v (n + 5) from if_neg (by omega)]; rfl)
theorem Po9_0 (a : Nat → Nat) (v : Nat → Int) (x : Int) : uF (o9 a v) 0 (iv x) = o9 a (uF v 35 x) := funext (fun j => match j with
  | 0 => rfl
  | 1 => rfl
  | 2 => rfl
  | 3 => rfl
  | 4 => rfl
  | 5 => rfl
  | 6 => rfl
  | n + 7 => by rw [show uF (o9 a v) 0 (iv x) (n + 7) = o9 a v (n + 7) from if_neg (by omega)]; rfl)
theorem Po9_1 (a : Nat → Nat) (v : Nat → Int) (x : Int) : uF (o9 a v) 1 (iv x) = o9 a (uF v 36 x) := funext (fun j => match j with
  | 0 => rfl
  | 1 => rfl
  | 2 => rfl
  | 3 => rfl
  | 4 => rfl
  | 5 => rfl
  | 6 => rfl
  | n + 7 => by rw [show uF (o9 a v) 1 (iv x) (n + 7) = o9 a v (n + 7) from if_neg (by omega)]; rfl)
theorem Po9_2 (a : Nat → Nat) (v : Nat → Int) (x : Int) : uF (o9 a v) 2 (iv x) = o9 a (uF v 37 x) := funext (fun j => match j with
  | 0 => rfl
  | 1 => rfl
  | 2 => rfl
  | 3 => rfl
  | 4 => rfl
  | 5 => rfl
  | 6 => rfl
  | n + 7 => by rw [show uF (o9 a v) 2 (iv x) (n + 7) = o9 a v (n + 7) from if_neg (by omega)]; rfl)
theorem Po11_0 (b : Nat → Nat) (w : Nat → Int) (x : Int) : uF (o11 b w) 0 (iv x) = o11 b (uF w 0 x) := funext (fun j => match j with
  | 0 => rfl
  | 1 => rfl
  | 2 => rfl
  | 3 => rfl
  | 4 => rfl
  | 5 => rfl
  | 6 => rfl
  | 7 => rfl
  | 8 => rfl
  | 9 => rfl
  | 10 => rfl
  | 11 => rfl
  | 12 => rfl
  | 13 => rfl
  | 14 => rfl
  | 15 => rfl
  | 16 => rfl
  | 17 => rfl
  | 18 => rfl
  | 19 => rfl
  | 20 => rfl
  | 21 => rfl
  | 22 => rfl
  | 23 => rfl
  | 24 => rfl
  | 25 => rfl
  | 26 => rfl
  | 27 => rfl
  | 28 => rfl
  | 29 => rfl
  | 30 => rfl
  | 31 => rfl
  | 32 => rfl
  | 33 => rfl
  | 34 => rfl
  | 35 => rfl
  | 36 => rfl
  | 37 => rfl
  | 38 => rfl
  | 39 => rfl
  | 40 => rfl
  | 41 => rfl
  | 42 => rfl
  | 43 => rfl
  | 44 => rfl
  | 45 => rfl
  | 46 => rfl
  | 47 => rfl
  | 48 => rfl
  | 49 => rfl
  | n + 50 => by rw [show uF (o11 b w) 0 (iv x) (n + 50) = o11 b w (n + 50) from if_neg (by omega)]; rfl)
theorem Po11_2 (b : Nat → Nat) (w : Nat → Int) (x : Int) : uF (o11 b w) 2 (iv x) = o11 b (uF w 2 x) := funext (fun j => match j with
  | 0 => rfl
  | 1 => rfl
  | 2 => rfl
  | 3 => rfl
  | 4 => rfl
  | 5 => rfl
  | 6 => rfl
  | 7 => rfl
  | 8 => rfl
  | 9 => rfl
  | 10 => rfl
  | 11 => rfl
  | 12 => rfl
  | 13 => rfl
  | 14 => rfl
  | 15 => rfl
  | 16 => rfl
  | 17 => rfl
  | 18 => rfl
  | 19 => rfl
  | 20 => rfl
  | 21 => rfl
  | 22 => rfl
  | 23 => rfl
  | 24 => rfl
  | 25 => rfl
  | 26 => rfl
  | 27 => rfl
  | 28 => rfl
  | 29 => rfl
  | 30 => rfl
  | 31 => rfl
  | 32 => rfl
  | 33 => rfl
  | 34 => rfl
  | 35 => rfl
  | 36 => rfl
  | 37 => rfl
  | 38 => rfl
  | 39 => rfl
  | 40 => rfl
  | 41 => rfl
  | 42 => rfl
  | 43 => rfl
  | 44 => rfl
  | 45 => rfl
  | 46 => rfl
  | 47 => rfl
  | 48 => rfl
  | 49 => rfl
  | n + 50 => by rw [show uF (o11 b w) 2 (iv x) (n + 50) = o11 b w (n + 50) from if_neg (by omega)]; rfl)
theorem Po11_3 (b : Nat → Nat) (w : Nat → Int) (x : Int) : uF (o11 b w) 3 (iv x) = o11 b (uF w 3 x) := funext (fun j => match j with
  | 0 => rfl
  | 1 => rfl
  | 2 => rfl
  | 3 => rfl
  | 4 => rfl
  | 5 => rfl
  | 6 => rfl
  | 7 => rfl
  | 8 => rfl
  | 9 => rfl
  | 10 => rfl
  | 11 => rfl
  | 12 => rfl
  | 13 => rfl
  | 14 => rfl
  | 15 => rfl
  | 16 => rfl
  | 17 => rfl
  | 18 => rfl
  | 19 => rfl
  | 20 => rfl
  | 21 => rfl
  | 22 => rfl
  | 23 => rfl
  | 24 => rfl
  | 25 => rfl
  | 26 => rfl
  | 27 => rfl
  | 28 => rfl
  | 29 => rfl
  | 30 => rfl
  | 31 => rfl
  | 32 => rfl
  | 33 => rfl
  | 34 => rfl
  | 35 => rfl
  | 36 => rfl
  | 37 => rfl
  | 38 => rfl
  | 39 => rfl
  | 40 => rfl
  | 41 => rfl
  | 42 => rfl
  | 43 => rfl
  | 44 => rfl
  | 45 => rfl
  | 46 => rfl
  | 47 => rfl
  | 48 => rfl
  | 49 => rfl
  | n + 50 => by rw [show uF (o11 b w) 3 (iv x) (n + 50) = o11 b w (n + 50) from if_neg (by omega)]; rfl)
theorem Po11_4 (b : Nat → Nat) (w : Nat → Int) (x : Int) : uF (o11 b w) 4 (iv x) = o11 b (uF w 4 x) := funext (fun j => match j with
  | 0 => rfl
  | 1 => rfl
  | 2 => rfl
  | 3 => rfl
  | 4 => rfl
  | 5 => rfl
  | 6 => rfl
  | 7 => rfl
  | 8 => rfl
  | 9 => rfl
  | 10 => rfl
  | 11 => rfl
  | 12 => rfl
  | 13 => rfl
  | 14 => rfl
  | 15 => rfl
  | 16 => rfl
  | 17 => rfl
  | 18 => rfl
  | 19 => rfl
  | 20 => rfl
  | 21 => rfl
  | 22 => rfl
  | 23 => rfl
  | 24 => rfl
  | 25 => rfl
  | 26 => rfl
  | 27 => rfl
  | 28 => rfl
  | 29 => rfl
  | 30 => rfl
  | 31 => rfl
  | 32 => rfl
  | 33 => rfl
  | 34 => rfl
  | 35 => rfl
  | 36 => rfl
  | 37 => rfl
  | 38 => rfl
  | 39 => rfl
  | 40 => rfl
  | 41 => rfl
  | 42 => rfl
  | 43 => rfl
  | 44 => rfl
  | 45 => rfl
  | 46 => rfl
  | 47 => rfl
  | 48 => rfl
  | 49 => rfl
  | n + 50 => by rw [show uF (o11 b w) 4 (iv x) (n + 50) = o11 b w (n + 50) from if_neg (by omega)]; rfl)
theorem Po11_5 (b : Nat → Nat) (w : Nat → Int) (x : Int) : uF (o11 b w) 5 (iv x) = o11 b (uF w 5 x) := funext (fun j => match j with
  | 0 => rfl
  | 1 => rfl
  | 2 => rfl
  | 3 => rfl
  | 4 => rfl
  | 5 => rfl
  | 6 => rfl
  | 7 => rfl
  | 8 => rfl
  | 9 => rfl
  | 10 => rfl
  | 11 => rfl
  | 12 => rfl
  | 13 => rfl
  | 14 => rfl
  | 15 => rfl
  | 16 => rfl
  | 17 => rfl
  | 18 => rfl
  | 19 => rfl
  | 20 => rfl
  | 21 => rfl
  | 22 => rfl
  | 23 => rfl
  | 24 => rfl
  | 25 => rfl
  | 26 => rfl
  | 27 => rfl
  | 28 => rfl
  | 29 => rfl
  | 30 => rfl
  | 31 => rfl
  | 32 => rfl
  | 33 => rfl
  | 34 => rfl
  | 35 => rfl
  | 36 => rfl
  | 37 => rfl
  | 38 => rfl
  | 39 => rfl
  | 40 => rfl
  | 41 => rfl
  | 42 => rfl
  | 43 => rfl
  | 44 => rfl
  | 45 => rfl
  | 46 => rfl
  | 47 => rfl
  | 48 => rfl
  | 49 => rfl
  | n + 50 => by rw [show uF (o11 b w) 5 (iv x) (n + 50) = o11 b w (n + 50) from if_neg (by omega)]; rfl)
theorem Po11_13 (b : Nat → Nat) (w : Nat → Int) (x : Int) : uF (o11 b w) 13 (iv x) = o11 b (uF w 13 x) := funext (fun j => match j with
  | 0 => rfl
  | 1 => rfl
  | 2 => rfl
  | 3 => rfl
  | 4 => rfl
  | 5 => rfl
  | 6 => rfl
  | 7 => rfl
  | 8 => rfl
  | 9 => rfl
  | 10 => rfl
  | 11 => rfl
  | 12 => rfl
  | 13 => rfl
  | 14 => rfl
  | 15 => rfl
  | 16 => rfl
  | 17 => rfl
  | 18 => rfl
  | 19 => rfl
  | 20 => rfl
  | 21 => rfl
  | 22 => rfl
  | 23 => rfl
  | 24 => rfl
  | 25 => rfl
  | 26 => rfl
  | 27 => rfl
  | 28 => rfl
  | 29 => rfl
  | 30 => rfl
  | 31 => rfl
  | 32 => rfl
  | 33 => rfl
  | 34 => rfl
  | 35 => rfl
  | 36 => rfl
  | 37 => rfl
  | 38 => rfl
  | 39 => rfl
  | 40 => rfl
  | 41 => rfl
  | 42 => rfl
  | 43 => rfl
  | 44 => rfl
  | 45 => rfl
  | 46 => rfl
  | 47 => rfl
  | 48 => rfl
  | 49 => rfl
  | n + 50 => by rw [show uF (o11 b w) 13 (iv x) (n + 50) = o11 b w (n + 50) from if_neg (by omega)]; rfl)
theorem Po11_14 (b : Nat → Nat) (w : Nat → Int) (x : Int) : uF (o11 b w) 14 (iv x) = o11 b (uF w 14 x) := funext (fun j => match j with
  | 0 => rfl
  | 1 => rfl
  | 2 => rfl
  | 3 => rfl
  | 4 => rfl
  | 5 => rfl
  | 6 => rfl
  | 7 => rfl
  | 8 => rfl
  | 9 => rfl
  | 10 => rfl
  | 11 => rfl
  | 12 => rfl
  | 13 => rfl
  | 14 => rfl
  | 15 => rfl
  | 16 => rfl
  | 17 => rfl
  | 18 => rfl
  | 19 => rfl
  | 20 => rfl
  | 21 => rfl
  | 22 => rfl
  | 23 => rfl
  | 24 => rfl
  | 25 => rfl
  | 26 => rfl
  | 27 => rfl
  | 28 => rfl
  | 29 => rfl
  | 30 => rfl
  | 31 => rfl
  | 32 => rfl
  | 33 => rfl
  | 34 => rfl
  | 35 => rfl
  | 36 => rfl
  | 37 => rfl
  | 38 => rfl
  | 39 => rfl
  | 40 => rfl
  | 41 => rfl
  | 42 => rfl
  | 43 => rfl
  | 44 => rfl
  | 45 => rfl
  | 46 => rfl
  | 47 => rfl
  | 48 => rfl
  | 49 => rfl
  | n + 50 => by rw [show uF (o11 b w) 14 (iv x) (n + 50) = o11 b w (n + 50) from if_neg (by omega)]; rfl)
theorem Po11_18 (b : Nat → Nat) (w : Nat → Int) (x : Int) : uF (o11 b w) 18 (iv x) = o11 b (uF w 18 x) := funext (fun j => match j with
  | 0 => rfl
  | 1 => rfl
  | 2 => rfl
  | 3 => rfl
  | 4 => rfl
  | 5 => rfl
  | 6 => rfl
  | 7 => rfl
  | 8 => rfl
  | 9 => rfl
  | 10 => rfl
  | 11 => rfl
  | 12 => rfl
  | 13 => rfl
  | 14 => rfl
  | 15 => rfl
  | 16 => rfl
  | 17 => rfl
  | 18 => rfl
  | 19 => rfl
  | 20 => rfl
  | 21 => rfl
  | 22 => rfl
  | 23 => rfl
  | 24 => rfl
  | 25 => rfl
  | 26 => rfl
  | 27 => rfl
  | 28 => rfl
  | 29 => rfl
  | 30 => rfl
  | 31 => rfl
  | 32 => rfl
  | 33 => rfl
  | 34 => rfl
  | 35 => rfl
  | 36 => rfl
  | 37 => rfl
  | 38 => rfl
  | 39 => rfl
  | 40 => rfl
  | 41 => rfl
  | 42 => rfl
  | 43 => rfl
  | 44 => rfl
  | 45 => rfl
  | 46 => rfl
  | 47 => rfl
  | 48 => rfl
  | 49 => rfl
  | n + 50 => by rw [show uF (o11 b w) 18 (iv x) (n + 50) = o11 b w (n + 50) from if_neg (by omega)]; rfl)
theorem Po11_19 (b : Nat → Nat) (w : Nat → Int) (x : Int) : uF (o11 b w) 19 (iv x) = o11 b (uF w 19 x) := funext (fun j => match j with
  | 0 => rfl
  | 1 => rfl
  | 2 => rfl
  | 3 => rfl
  | 4 => rfl
  | 5 => rfl
  | 6 => rfl
  | 7 => rfl
  | 8 => rfl
  | 9 => rfl
  | 10 => rfl
  | 11 => rfl
  | 12 => rfl
  | 13 => rfl
  | 14 => rfl
  | 15 => rfl
  | 16 => rfl
  | 17 => rfl
  | 18 => rfl
  | 19 => rfl
  | 20 => rfl
  | 21 => rfl
  | 22 => rfl
  | 23 => rfl
  | 24 => rfl
  | 25 => rfl
  | 26 => rfl
  | 27 => rfl
  | 28 => rfl
  | 29 => rfl
  | 30 => rfl
  | 31 => rfl
  | 32 => rfl
  | 33 => rfl
  | 34 => rfl
  | 35 => rfl
  | 36 => rfl
  | 37 => rfl
  | 38 => rfl
  | 39 => rfl
  | 40 => rfl
  | 41 => rfl
  | 42 => rfl
  | 43 => rfl
  | 44 => rfl
  | 45 => rfl
  | 46 => rfl
  | 47 => rfl
  | 48 => rfl
  | 49 => rfl
  | n + 50 => by rw [show uF (o11 b w) 19 (iv x) (n + 50) = o11 b w (n + 50) from if_neg (by omega)]; rfl)
theorem Po11_21 (b : Nat → Nat) (w : Nat → Int) (x : Int) : uF (o11 b w) 21 (iv x) = o11 b (uF w 21 x) := funext (fun j => match j with
  | 0 => rfl
  | 1 => rfl
  | 2 => rfl
  | 3 => rfl
  | 4 => rfl
  | 5 => rfl
  | 6 => rfl
  | 7 => rfl
  | 8 => rfl
  | 9 => rfl
  | 10 => rfl
  | 11 => rfl
  | 12 => rfl
  | 13 => rfl
  | 14 => rfl
  | 15 => rfl
  | 16 => rfl
  | 17 => rfl
  | 18 => rfl
  | 19 => rfl
  | 20 => rfl
  | 21 => rfl
  | 22 => rfl
  | 23 => rfl
  | 24 => rfl
  | 25 => rfl
  | 26 => rfl
  | 27 => rfl
  | 28 => rfl
  | 29 => rfl
  | 30 => rfl
  | 31 => rfl
  | 32 => rfl
  | 33 => rfl
  | 34 => rfl
  | 35 => rfl
  | 36 => rfl
  | 37 => rfl
  | 38 => rfl
  | 39 => rfl
  | 40 => rfl
  | 41 => rfl
  | 42 => rfl
  | 43 => rfl
  | 44 => rfl
  | 45 => rfl
  | 46 => rfl
  | 47 => rfl
  | 48 => rfl
  | 49 => rfl
  | n + 50 => by rw [show uF (o11 b w) 21 (iv x) (n + 50) = o11 b w (n + 50) from if_neg (by omega)]; rfl)
theorem Po11_22 (b : Nat → Nat) (w : Nat → Int) (x : Int) : uF (o11 b w) 22 (iv x) = o11 b (uF w 22 x) := funext (fun j => match j with
  | 0 => rfl
  | 1 => rfl
  | 2 => rfl
  | 3 => rfl
  | 4 => rfl
  | 5 => rfl
  | 6 => rfl
  | 7 => rfl
  | 8 => rfl
  | 9 => rfl
  | 10 => rfl
  | 11 => rfl
  | 12 => rfl
  | 13 => rfl
  | 14 => rfl
  | 15 => rfl
  | 16 => rfl
  | 17 => rfl
  | 18 => rfl
  | 19 => rfl
  | 20 => rfl
  | 21 => rfl
  | 22 => rfl
  | 23 => rfl
  | 24 => rfl
  | 25 => rfl
  | 26 => rfl
  | 27 => rfl
  | 28 => rfl
  | 29 => rfl
  | 30 => rfl
  | 31 => rfl
  | 32 => rfl
  | 33 => rfl
  | 34 => rfl
  | 35 => rfl
  | 36 => rfl
  | 37 => rfl
  | 38 => rfl
  | 39 => rfl
  | 40 => rfl
  | 41 => rfl
  | 42 => rfl
  | 43 => rfl
  | 44 => rfl
  | 45 => rfl
  | 46 => rfl
  | 47 => rfl
  | 48 => rfl
  | 49 => rfl
  | n + 50 => by rw [show uF (o11 b w) 22 (iv x) (n + 50) = o11 b w (n + 50) from if_neg (by omega)]; rfl)
theorem Po11_25 (b : Nat → Nat) (w : Nat → Int) (x : Int) : uF (o11 b w) 25 (iv x) = o11 b (uF w 25 x) := funext (fun j => match j with
  | 0 => rfl
  | 1 => rfl
  | 2 => rfl
  | 3 => rfl
  | 4 => rfl
  | 5 => rfl
  | 6 => rfl
  | 7 => rfl
  | 8 => rfl
  | 9 => rfl
  | 10 => rfl
  | 11 => rfl
  | 12 => rfl
  | 13 => rfl
  | 14 => rfl
  | 15 => rfl
  | 16 => rfl
  | 17 => rfl
  | 18 => rfl
  | 19 => rfl
  | 20 => rfl
  | 21 => rfl
  | 22 => rfl
  | 23 => rfl
  | 24 => rfl
  | 25 => rfl
  | 26 => rfl
  | 27 => rfl
  | 28 => rfl
  | 29 => rfl
  | 30 => rfl
  | 31 => rfl
  | 32 => rfl
  | 33 => rfl
  | 34 => rfl
  | 35 => rfl
  | 36 => rfl
  | 37 => rfl
  | 38 => rfl
  | 39 => rfl
  | 40 => rfl
  | 41 => rfl
  | 42 => rfl
  | 43 => rfl
  | 44 => rfl
  | 45 => rfl
  | 46 => rfl
  | 47 => rfl
  | 48 => rfl
  | 49 => rfl
  | n + 50 => by rw [show uF (o11 b w) 25 (iv x) (n + 50) = o11 b w (n + 50) from if_neg (by omega)]; rfl)
theorem Po11_26 (b : Nat → Nat) (w : Nat → Int) (x : Int) : uF (o11 b w) 26 (iv x) = o11 b (uF w 26 x) := funext (fun j => match j with
  | 0 => rfl
  | 1 => rfl
  | 2 => rfl
  | 3 => rfl
  | 4 => rfl
  | 5 => rfl
  | 6 => rfl
  | 7 => rfl
  | 8 => rfl
  | 9 => rfl
  | 10 => rfl
  | 11 => rfl
  | 12 => rfl
  | 13 => rfl
  | 14 => rfl
  | 15 => rfl
  | 16 => rfl
  | 17 => rfl
  | 18 => rfl
  | 19 => rfl
  | 20 => rfl
  | 21 => rfl
  | 22 => rfl
  | 23 => rfl
  | 24 => rfl
  | 25 => rfl
  | 26 => rfl
  | 27 => rfl
  | 28 => rfl
  | 29 => rfl
  | 30 => rfl
  | 31 => rfl
  | 32 => rfl
  | 33 => rfl
  | 34 => rfl
  | 35 => rfl
  | 36 => rfl
  | 37 => rfl
  | 38 => rfl
  | 39 => rfl
  | 40 => rfl
  | 41 => rfl
  | 42 => rfl
  | 43 => rfl
  | 44 => rfl
  | 45 => rfl
  | 46 => rfl
  | 47 => rfl
  | 48 => rfl
  | 49 => rfl
  | n + 50 => by rw [show uF (o11 b w) 26 (iv x) (n + 50) = o11 b w (n + 50) from if_neg (by omega)]; rfl)
theorem Po11_27 (b : Nat → Nat) (w : Nat → Int) (x : Int) : uF (o11 b w) 27 (iv x) = o11 b (uF w 27 x) := funext (fun j => match j with
  | 0 => rfl
  | 1 => rfl
  | 2 => rfl
  | 3 => rfl
  | 4 => rfl
  | 5 => rfl
  | 6 => rfl
  | 7 => rfl
  | 8 => rfl
  | 9 => rfl
  | 10 => rfl
  | 11 => rfl
  | 12 => rfl
  | 13 => rfl
  | 14 => rfl
  | 15 => rfl
  | 16 => rfl
  | 17 => rfl
  | 18 => rfl
  | 19 => rfl
  | 20 => rfl
  | 21 => rfl
  | 22 => rfl
  | 23 => rfl
  | 24 => rfl
  | 25 => rfl
  | 26 => rfl
  | 27 => rfl
  | 28 => rfl
  | 29 => rfl
  | 30 => rfl
  | 31 => rfl
  | 32 => rfl
  | 33 => rfl
  | 34 => rfl
  | 35 => rfl
  | 36 => rfl
  | 37 => rfl
  | 38 => rfl
  | 39 => rfl
  | 40 => rfl
  | 41 => rfl
  | 42 => rfl
  | 43 => rfl
  | 44 => rfl
  | 45 => rfl
  | 46 => rfl
  | 47 => rfl
  | 48 => rfl
  | 49 => rfl
  | n + 50 => by rw [show uF (o11 b w) 27 (iv x) (n + 50) = o11 b w (n + 50) from if_neg (by omega)]; rfl)
theorem Po11_28 (b : Nat → Nat) (w : Nat → Int) (x : Int) : uF (o11 b w) 28 (iv x) = o11 b (uF w 28 x) := funext (fun j => match j with
  | 0 => rfl
  | 1 => rfl
  | 2 => rfl
  | 3 => rfl
  | 4 => rfl
  | 5 => rfl
  | 6 => rfl
  | 7 => rfl
  | 8 => rfl
  | 9 => rfl
  | 10 => rfl
  | 11 => rfl
  | 12 => rfl
  | 13 => rfl
  | 14 => rfl
  | 15 => rfl
  | 16 => rfl
  | 17 => rfl
  | 18 => rfl
  | 19 => rfl
  | 20 => rfl
  | 21 => rfl
  | 22 => rfl
  | 23 => rfl
  | 24 => rfl
  | 25 => rfl
  | 26 => rfl
  | 27 => rfl
  | 28 => rfl
  | 29 => rfl
  | 30 => rfl
  | 31 => rfl
  | 32 => rfl
  | 33 => rfl
  | 34 => rfl
  | 35 => rfl
  | 36 => rfl
  | 37 => rfl
  | 38 => rfl
  | 39 => rfl
  | 40 => rfl
  | 41 => rfl
  | 42 => rfl
  | 43 => rfl
  | 44 => rfl
  | 45 => rfl
  | 46 => rfl
  | 47 => rfl
  | 48 => rfl
  | 49 => rfl
  | n + 50 => by rw [show uF (o11 b w) 28 (iv x) (n + 50) = o11 b w (n + 50) from if_neg (by omega)]; rfl)
theorem Po11_29 (b : Nat → Nat) (w : Nat → Int) (x : Int) : uF (o11 b w) 29 (iv x) = o11 b (uF w 29 x) := funext (fun j => match j with
  | 0 => rfl
  | 1 => rfl
  | 2 => rfl
  | 3 => rfl
  | 4 => rfl
  | 5 => rfl
  | 6 => rfl
  | 7 => rfl
  | 8 => rfl
  | 9 => rfl
  | 10 => rfl
  | 11 => rfl
  | 12 => rfl
  | 13 => rfl
  | 14 => rfl
  | 15 => rfl
  | 16 => rfl
  | 17 => rfl
  | 18 => rfl
  | 19 => rfl
  | 20 => rfl
  | 21 => rfl
  | 22 => rfl
  | 23 => rfl
  | 24 => rfl
  | 25 => rfl
  | 26 => rfl
  | 27 => rfl
  | 28 => rfl
  | 29 => rfl
  | 30 => rfl
  | 31 => rfl
  | 32 => rfl
  | 33 => rfl
  | 34 => rfl
  | 35 => rfl
  | 36 => rfl
  | 37 => rfl
  | 38 => rfl
  | 39 => rfl
  | 40 => rfl
  | 41 => rfl
  | 42 => rfl
  | 43 => rfl
  | 44 => rfl
  | 45 => rfl
  | 46 => rfl
  | 47 => rfl
  | 48 => rfl
  | 49 => rfl
  | n + 50 => by rw [show uF (o11 b w) 29 (iv x) (n + 50) = o11 b w (n + 50) from if_neg (by omega)]; rfl)
theorem Po11_30 (b : Nat → Nat) (w : Nat → Int) (x : Int) : uF (o11 b w) 30 (iv x) = o11 b (uF w 30 x) := funext (fun j => match j with
  | 0 => rfl
  | 1 => rfl
  | 2 => rfl
  | 3 => rfl
  | 4 => rfl
  | 5 => rfl
  | 6 => rfl
  | 7 => rfl
  | 8 => rfl
  | 9 => rfl
  | 10 => rfl
  | 11 => rfl
  | 12 => rfl
  | 13 => rfl
  | 14 => rfl
  | 15 => rfl
  | 16 => rfl
  | 17 => rfl
  | 18 => rfl
  | 19 => rfl
  | 20 => rfl
  | 21 => rfl
  | 22 => rfl
  | 23 => rfl
  | 24 => rfl
  | 25 => rfl
  | 26 => rfl
  | 27 => rfl
  | 28 => rfl
  | 29 => rfl
  | 30 => rfl
  | 31 => rfl
  | 32 => rfl
  | 33 => rfl
  | 34 => rfl
  | 35 => rfl
  | 36 => rfl
  | 37 => rfl
  | 38 => rfl
  | 39 => rfl
  | 40 => rfl
  | 41 => rfl
  | 42 => rfl
  | 43 => rfl
  | 44 => rfl
  | 45 => rfl
  | 46 => rfl
  | 47 => rfl
  | 48 => rfl
  | 49 => rfl
  | n + 50 => by rw [show uF (o11 b w) 30 (iv x) (n + 50) = o11 b w (n + 50) from if_neg (by omega)]; rfl)
theorem Po11_32 (b : Nat → Nat) (w : Nat → Int) (x : Int) : uF (o11 b w) 32 (iv x) = o11 b (uF w 32 x) := funext (fun j => match j with
  | 0 => rfl
  | 1 => rfl
  | 2 => rfl
  | 3 => rfl
  | 4 => rfl
  | 5 => rfl
  | 6 => rfl
  | 7 => rfl
  | 8 => rfl
  | 9 => rfl
  | 10 => rfl
  | 11 => rfl
  | 12 => rfl
  | 13 => rfl
  | 14 => rfl
  | 15 => rfl
  | 16 => rfl
  | 17 => rfl
  | 18 => rfl
  | 19 => rfl
  | 20 => rfl
  | 21 => rfl
  | 22 => rfl
  | 23 => rfl
  | 24 => rfl
  | 25 => rfl
  | 26 => rfl
  | 27 => rfl
  | 28 => rfl
  | 29 => rfl
  | 30 => rfl
  | 31 => rfl
  | 32 => rfl
  | 33 => rfl
  | 34 => rfl
  | 35 => rfl
  | 36 => rfl
  | 37 => rfl
  | 38 => rfl
  | 39 => rfl
  | 40 => rfl
  | 41 => rfl
  | 42 => rfl
  | 43 => rfl
  | 44 => rfl
  | 45 => rfl
  | 46 => rfl
  | 47 => rfl
  | 48 => rfl
  | 49 => rfl
  | n + 50 => by rw [show uF (o11 b w) 32 (iv x) (n + 50) = o11 b w (n + 50) from if_neg (by omega)]; rfl)
theorem Po11_38 (b : Nat → Nat) (w : Nat → Int) (x : Int) : uF (o11 b w) 38 (iv x) = o11 b (uF w 38 x) := funext (fun j => match j with
  | 0 => rfl
  | 1 => rfl
  | 2 => rfl
  | 3 => rfl
  | 4 => rfl
  | 5 => rfl
  | 6 => rfl
  | 7 => rfl
  | 8 => rfl
  | 9 => rfl
  | 10 => rfl
  | 11 => rfl
  | 12 => rfl
  | 13 => rfl
  | 14 => rfl
  | 15 => rfl
  | 16 => rfl
  | 17 => rfl
  | 18 => rfl
  | 19 => rfl
  | 20 => rfl
  | 21 => rfl
  | 22 => rfl
  | 23 => rfl
  | 24 => rfl
  | 25 => rfl
  | 26 => rfl
  | 27 => rfl
  | 28 => rfl
  | 29 => rfl
  | 30 => rfl
  | 31 => rfl
  | 32 => rfl
  | 33 => rfl
  | 34 => rfl
  | 35 => rfl
  | 36 => rfl
  | 37 => rfl
  | 38 => rfl
  | 39 => rfl
  | 40 => rfl
  | 41 => rfl
  | 42 => rfl
  | 43 => rfl
  | 44 => rfl
  | 45 => rfl
  | 46 => rfl
  | 47 => rfl
  | 48 => rfl
  | 49 => rfl
  | n + 50 => by rw [show uF (o11 b w) 38 (iv x) (n + 50) = o11 b w (n + 50) from if_neg (by omega)]; rfl)
theorem Po11_39 (b : Nat → Nat) (w : Nat → Int) (x : Int) : uF (o11 b w) 39 (iv x) = o11 b (uF w 39 x) := funext (fun j => match j with
  | 0 => rfl
  | 1 => rfl
  | 2 => rfl
  | 3 => rfl
  | 4 => rfl
  | 5 => rfl
  | 6 => rfl
  | 7 => rfl
  | 8 => rfl
  | 9 => rfl
  | 10 => rfl
  | 11 => rfl
  | 12 => rfl
  | 13 => rfl
  | 14 => rfl
  | 15 => rfl
  | 16 => rfl
  | 17 => rfl
  | 18 => rfl
  | 19 => rfl
  | 20 => rfl
  | 21 => rfl
  | 22 => rfl
  | 23 => rfl
  | 24 => rfl
  | 25 => rfl
  | 26 => rfl
  | 27 => rfl
  | 28 => rfl
  | 29 => rfl
  | 30 => rfl
  | 31 => rfl
  | 32 => rfl
  | 33 => rfl
  | 34 => rfl
  | 35 => rfl
  | 36 => rfl
  | 37 => rfl
  | 38 => rfl
  | 39 => rfl
  | 40 => rfl
  | 41 => rfl
  | 42 => rfl
  | 43 => rfl
  | 44 => rfl
  | 45 => rfl
  | 46 => rfl
  | 47 => rfl
  | 48 => rfl
  | 49 => rfl
  | n + 50 => by rw [show uF (o11 b w) 39 (iv x) (n + 50) = o11 b w (n + 50) from if_neg (by omega)]; rfl)
theorem Po11_46 (b : Nat → Nat) (w : Nat → Int) (x : Int) : uF (o11 b w) 46 (iv x) = o11 b (uF w 46 x) := funext (fun j => match j with
  | 0 => rfl
  | 1 => rfl
  | 2 => rfl
  | 3 => rfl
  | 4 => rfl
  | 5 => rfl
  | 6 => rfl
  | 7 => rfl
  | 8 => rfl
  | 9 => rfl
  | 10 => rfl
  | 11 => rfl
  | 12 => rfl
  | 13 => rfl
  | 14 => rfl
  | 15 => rfl
  | 16 => rfl
  | 17 => rfl
  | 18 => rfl
  | 19 => rfl
  | 20 => rfl
  | 21 => rfl
  | 22 => rfl
  | 23 => rfl
  | 24 => rfl
  | 25 => rfl
  | 26 => rfl
  | 27 => rfl
  | 28 => rfl
  | 29 => rfl
  | 30 => rfl
  | 31 => rfl
  | 32 => rfl
  | 33 => rfl
  | 34 => rfl
  | 35 => rfl
  | 36 => rfl
  | 37 => rfl
  | 38 => rfl
  | 39 => rfl
  | 40 => rfl
  | 41 => rfl
  | 42 => rfl
  | 43 => rfl
  | 44 => rfl
  | 45 => rfl
  | 46 => rfl
  | 47 => rfl
  | 48 => rfl
  | 49 => rfl
  | n + 50 => by rw [show uF (o11 b w) 46 (iv x) (n + 50) = o11 b w (n + 50) from if_neg (by omega)]; rfl)
theorem Po11_48 (b : Nat → Nat) (w : Nat → Int) (x : Int) : uF (o11 b w) 48 (iv x) = o11 b (uF w 48 x) := funext (fun j => match j with
  | 0 => rfl
  | 1 => rfl
  | 2 => rfl
  | 3 => rfl
  | 4 => rfl
  | 5 => rfl
  | 6 => rfl
  | 7 => rfl
  | 8 => rfl
  | 9 => rfl
  | 10 => rfl
  | 11 => rfl
  | 12 => rfl
  | 13 => rfl
  | 14 => rfl
  | 15 => rfl
  | 16 => rfl
  | 17 => rfl
  | 18 => rfl
  | 19 => rfl
  | 20 => rfl
  | 21 => rfl
  | 22 => rfl
  | 23 => rfl
  | 24 => rfl
  | 25 => rfl
  | 26 => rfl
  | 27 => rfl
  | 28 => rfl
  | 29 => rfl
  | 30 => rfl
  | 31 => rfl
  | 32 => rfl
  | 33 => rfl
  | 34 => rfl
  | 35 => rfl
  | 36 => rfl
  | 37 => rfl
  | 38 => rfl
  | 39 => rfl
  | 40 => rfl
  | 41 => rfl
  | 42 => rfl
  | 43 => rfl
  | 44 => rfl
  | 45 => rfl
  | 46 => rfl
  | 47 => rfl
  | 48 => rfl
  | 49 => rfl
  | n + 50 => by rw [show uF (o11 b w) 48 (iv x) (n + 50) = o11 b w (n + 50) from if_neg (by omega)]; rfl)
theorem Po11_49 (b : Nat → Nat) (w : Nat → Int) (x : Int) : uF (o11 b w) 49 (iv x) = o11 b (uF w 49 x) := funext (fun j => match j with
  | 0 => rfl
  | 1 => rfl
  | 2 => rfl
  | 3 => rfl
  | 4 => rfl
  | 5 => rfl
  | 6 => rfl
  | 7 => rfl
  | 8 => rfl
  | 9 => rfl
  | 10 => rfl
  | 11 => rfl
  | 12 => rfl
  | 13 => rfl
  | 14 => rfl
  | 15 => rfl
  | 16 => rfl
  | 17 => rfl
  | 18 => rfl
  | 19 => rfl
  | 20 => rfl
  | 21 => rfl
  | 22 => rfl
  | 23 => rfl
  | 24 => rfl
  | 25 => rfl
  | 26 => rfl
  | 27 => rfl
  | 28 => rfl
  | 29 => rfl
  | 30 => rfl
  | 31 => rfl
  | 32 => rfl
  | 33 => rfl
  | 34 => rfl
  | 35 => rfl
  | 36 => rfl
  | 37 => rfl
  | 38 => rfl
  | 39 => rfl
  | 40 => rfl
  | 41 => rfl
  | 42 => rfl
  | 43 => rfl
  | 44 => rfl
  | 45 => rfl
  | 46 => rfl
  | 47 => rfl
  | 48 => rfl
  | 49 => rfl
  | n + 50 => by rw [show uF (o11 b w) 49 (iv x) (n + 50) = o11 b w (n + 50) from if_neg (by omega)]; rfl)
end pt_90state
/- 91.qc.lean.txt -/
section pt_91qc
def QX11_feed (a : Nat → Nat) (v : Nat → Int) (g : Nat → Int → Int) (R : Int → Int → Int) (ds : List LwS) (ys : Nat → LwY) (y1 y2 y3 y4 y5 : Int) (z : Int) (u : EW) : Prop := (z = -1 ∧ u = CW a v g R ds ys ∧ 160 < (v 4) + fbn y1 y2 y3 y4 y5) ∨ (∃ n2 : Int, ∃ T2 : Int → Int, z = n2 ∧ u = CW a (uF v 4 n2) (uF g 21 T2) R ds ys ∧ (v 4) + fbn y1 y2 y3 y4 y5 ≤ 160 ∧ n2 = (v 4) + fbn y1 y2 y3 y4 y5 ∧ T2 = wrL (g 21) (v 4) (fbs y1 y2 y3 y4 y5))
set_option maxRecDepth 100000 in
set_option maxHeartbeats 4000000 in
theorem qX11_feed (l : Launch) (a : Nat → Nat) (v : Nat → Int) (g : Nat → Int → Int) (R : Int → Int → Int) (ds : List LwS) (ys : Nat → LwY) (y1 y2 y3 y4 y5 : Int) (hn : 0 ≤ (v 4) ∧ (v 4) ≤ 160) : AMi l yX11_feed cX11_feed 7 .int 1 0 0 [rv (a 19), iv y1, iv y2, iv y3, iv y4, iv y5] (CW a v g R ds ys) (QX11_feed a v g R ds ys y1 y2 y3 y4 y5) := by
  have hk := (kX11_feed l (a 19) (a 20) (a 21) (o10 a v) (o6 a v) (g 21) (v 4) y1 y2 y3 y4 y5 rfl rfl hn)
  simp only [Po6_1, uF_self] at hk
  refine AMi.gL (wl := CF a v g R ds) (is := [19, 20, 21]) [0, 1, 2, 3, 4, 5, 6, 7, 8, 9, 10, 11, 12, 13, 14, 15, 16, 17, 18, 22, 23, 24, 25, 26, 27, 28, 29, 30, 31, 32, 33, 34, 35, 36, 37, 38, 39, 40, 41, 42, 43, 44] 45 hk rfl rfl (by decide +kernel) (by decide +kernel) (fun z u hq => ?_)
  rcases hq with ⟨hz, hu, hq⟩ | ⟨n2, T2, hz, hu, hq, h2, h3⟩
  · subst hu
    exact ⟨rfl, CF a v g R ds, rfl, rfl, CF_rest (by decide) rfl, Or.inl ⟨hz, rfl, hq⟩⟩
  · subst hu
    exact ⟨rfl, CF a (uF v 4 n2) (uF g 21 T2) R ds, rfl, rfl, CF_rest (by decide) rfl, Or.inr (⟨n2, T2, hz, rfl, hq, h2, h3⟩)⟩
def QX11_end (a : Nat → Nat) (v : Nat → Int) (g : Nat → Int → Int) (R : Int → Int → Int) (ds : List LwS) (ys : Nat → LwY) (y1 : Int) (z : Int) (u : EW) : Prop := (z = 0 ∧ u = CW a v g R ds ys ∧ (¬ (0 ≤ y1 ∧ y1 ≤ (v 4)))) ∨ (z = 1 ∧ u = CW a (uF v 4 y1) g R ds ys ∧ (0 ≤ y1 ∧ y1 ≤ (v 4)))
set_option maxRecDepth 100000 in
set_option maxHeartbeats 4000000 in
theorem qX11_end (l : Launch) (a : Nat → Nat) (v : Nat → Int) (g : Nat → Int → Int) (R : Int → Int → Int) (ds : List LwS) (ys : Nat → LwY) (y1 : Int) (hn : 0 ≤ (v 4) ∧ (v 4) ≤ 160) (hm : inR y1) : AMi l yX11_end cX11_end 2 .boolean 0 0 0 [rv (a 19), iv y1] (CW a v g R ds ys) (QX11_end a v g R ds ys y1) := by
  have hk := (kX11_end l (a 19) (a 20) (o10 a v) (o6 a v) (v 4) y1 rfl hn hm)
  simp only [Po6_1, uF_self] at hk
  refine AMi.gL (wl := CF a v g R ds) (is := [19, 20]) [0, 1, 2, 3, 4, 5, 6, 7, 8, 9, 10, 11, 12, 13, 14, 15, 16, 17, 18, 21, 22, 23, 24, 25, 26, 27, 28, 29, 30, 31, 32, 33, 34, 35, 36, 37, 38, 39, 40, 41, 42, 43, 44] 45 hk rfl rfl (by decide +kernel) (by decide +kernel) (fun z u hq => ?_)
  rcases hq with ⟨hz, hu, hq⟩ | ⟨hz, hu, hq⟩
  · subst hu
    exact ⟨rfl, CF a v g R ds, rfl, rfl, CF_rest (by decide) rfl, Or.inl ⟨hz, rfl, hq⟩⟩
  · subst hu
    exact ⟨rfl, CF a (uF v 4 y1) g R ds, rfl, rfl, CF_rest (by decide) rfl, Or.inr (⟨hz, rfl, hq⟩)⟩
def QX11_fault (a : Nat → Nat) (v : Nat → Int) (g : Nat → Int → Int) (R : Int → Int → Int) (ds : List LwS) (ys : Nat → LwY) (y1 : Int) (z : Int) (u : EW) : Prop := (∃ fl : Int, ∃ a2 : Int, ∃ x2 : Int, ∃ p2 : Int, ∃ m2 : Int, ∃ R2 : Int → Int → Int, z = fl ∧ u = CW a (uF (uF (uF (uF (uF v 5 a2) 6 fl) 7 x2) 8 p2) 9 m2) g R2 ds ys ∧ y1 = 0 ∧ tnRes (g 21) (v 4) R = .inl fl ∧ (0 ≤ fl ∧ fl ≤ 160)) ∨ (∃ a2 : Int, ∃ x2 : Int, ∃ p2 : Int, ∃ m2 : Int, ∃ R2 : Int → Int → Int, z = -1 ∧ u = CW a (uF (uF (uF (uF (uF v 5 a2) 6 (-1)) 7 x2) 8 p2) 9 m2) g R2 ds ys ∧ y1 = 0 ∧ tnRes (g 21) (v 4) R = .inr (p2, m2, x2, R2) ∧ okTS (p2, m2, x2, R2)) ∨ (∃ fl : Int, ∃ a2 : Int, ∃ x2 : Int, ∃ C2 : Int → Int, z = fl ∧ u = CW a (uF (uF (uF v 10 a2) 11 fl) 12 x2) (uF g 30 C2) R ds ys ∧ y1 = 1 ∧ lwRes (g 21) (v 4) = .inl fl ∧ (0 ≤ fl ∧ fl ≤ 160)) ∨ (∃ a2 : Int, ∃ ts : List Int, z = -1 ∧ u = CW a (uF (uF (uF v 10 a2) 11 (-1)) 12 (0 + ((ts).length : Int))) (uF g 30 (wrL (g 30) 0 (ts))) R ds ys ∧ y1 = 1 ∧ lwRes (g 21) (v 4) = .inr ts ∧ (ts.length : Int) ≤ 160 ∧ (∀ t ∈ ts, -200 ≤ t ∧ t ≤ 9999)) ∨ (z = -2 ∧ u = CW a v g R ds ys ∧ (y1 ≠ 0 ∧ y1 ≠ 1))
set_option maxRecDepth 100000 in
set_option maxHeartbeats 4000000 in
theorem qX11_fault (l : Launch) (a : Nat → Nat) (v : Nat → Int) (g : Nat → Int → Int) (R : Int → Int → Int) (ds : List LwS) (ys : Nat → LwY) (y1 : Int) (hT : okT (g 21) (v 4)) (hx_v : inR y1) : AMi l yX11_fault cX11_fault 2 .int 33 0 0 [rv (a 19), iv y1] (CW a v g R ds ys) (QX11_fault a v g R ds ys y1) := by
  have hk := (kX11_fault l (a 19) (o10 a v) (a 22) (o8 a v) (v 5) (v 6) (v 7) (a 20) (o6 a v) (a 21) (g 21) (v 4) (a 23) (o7d a v) (v 8) (v 9) (a 24) (a 25) (a 26) (a 27) (a 28) R (a 29) (o2 a v) (v 10) (v 11) (v 12) (a 30) (g 30) y1 rfl rfl rfl rfl rfl rfl rfl rfl rfl rfl rfl rfl rfl hT hx_v)
  simp only [Po2_1, Po2_2, Po2_4, Po6_1, Po7d_0, Po7d_1, Po8_1, Po8_2, Po8_4, uF_self] at hk
  refine AMi.gL (wl := CF a v g R ds) (is := [19, 20, 21, 22, 23, 24, 25, 26, 27, 28, 29, 30]) [0, 1, 2, 3, 4, 5, 6, 7, 8, 9, 10, 11, 12, 13, 14, 15, 16, 17, 18, 31, 32, 33, 34, 35, 36, 37, 38, 39, 40, 41, 42, 43, 44] 45 hk rfl rfl (by decide +kernel) (by decide +kernel) (fun z u hq => ?_)
  rcases hq with ⟨fl, a2, x2, p2, m2, R2, hz, hu, hv, hr, hfl⟩ | ⟨a2, x2, p2, m2, R2, hz, hu, hv, hr, hk⟩ | ⟨fl, a2, x2, C2, hz, hu, hv, hr, hfl⟩ | ⟨a2, ts, hz, hu, hv, hr, hl, ht2⟩ | ⟨hz, hu, hv⟩
  · subst hu
    exact ⟨rfl, CF a (uF (uF (uF (uF (uF v 5 a2) 6 fl) 7 x2) 8 p2) 9 m2) g R2 ds, rfl, rfl, CF_rest (by decide) rfl, Or.inl ⟨fl, a2, x2, p2, m2, R2, hz, rfl, hv, hr, hfl⟩⟩
  · subst hu
    exact ⟨rfl, CF a (uF (uF (uF (uF (uF v 5 a2) 6 (-1)) 7 x2) 8 p2) 9 m2) g R2 ds, rfl, rfl, CF_rest (by decide) rfl, Or.inr (Or.inl ⟨a2, x2, p2, m2, R2, hz, rfl, hv, hr, hk⟩)⟩
  · subst hu
    exact ⟨rfl, CF a (uF (uF (uF v 10 a2) 11 fl) 12 x2) (uF g 30 C2) R ds, rfl, rfl, CF_rest (by decide) rfl, Or.inr (Or.inr (Or.inl ⟨fl, a2, x2, C2, hz, rfl, hv, hr, hfl⟩))⟩
  · subst hu
    exact ⟨rfl, CF a (uF (uF (uF v 10 a2) 11 (-1)) 12 (0 + ((ts).length : Int))) (uF g 30 (wrL (g 30) 0 (ts))) R ds, rfl, rfl, CF_rest (by decide) rfl, Or.inr (Or.inr (Or.inr (Or.inl ⟨a2, ts, hz, rfl, hv, hr, hl, ht2⟩)))⟩
  · subst hu
    exact ⟨rfl, CF a v g R ds, rfl, rfl, CF_rest (by decide) rfl, Or.inr (Or.inr (Or.inr (Or.inr (⟨hz, rfl, hv⟩))))⟩
def QX11_text (a : Nat → Nat) (v : Nat → Int) (g : Nat → Int → Int) (R : Int → Int → Int) (ds : List LwS) (ys : Nat → LwY) (y1 : Int) (z : Int) (u : EW) : Prop := (z = -1 ∧ u = CW a v g R ds ys ∧ (y1 ≠ 0 ∧ y1 ≠ 1)) ∨ (∃ fl : Int, ∃ a2 : Int, ∃ x2 : Int, ∃ p2 : Int, ∃ m2 : Int, ∃ R2 : Int → Int → Int, z = -1 ∧ u = CW a (uF (uF (uF (uF (uF v 5 a2) 6 fl) 7 x2) 8 p2) 9 m2) g R2 ds ys ∧ y1 = 0 ∧ tnRes (g 21) (v 4) R = .inl fl) ∨ (∃ a2 : Int, ∃ x2 : Int, ∃ p2 : Int, ∃ m2 : Int, ∃ R2 : Int → Int → Int, ∃ B2 : Int → Int, ∃ D2 : Int → Int, ∃ K2 : Int → Int, ∃ F2 : Int → Int, ∃ H2 : Int → Int, ∃ B3 : Int → Int, ∃ F3 : Int → Int, ∃ H3 : Int → Int, ∃ L3 : Int → Int, ∃ y2 : Nat → LwY, z = p2 ∧ u = CW a (uF (uF (uF (uF (uF (uF (uF (uF (uF (uF (uF (uF (uF (uF (uF v 3 0) 4 0) 5 a2) 6 (-1)) 7 x2) 8 p2) 9 m2) 13 p2) 14 m2) 15 0) 16 0) 17 0) 19 0) 23 0) 35 0) (uF (uF (uF (uF (uF (uF (uF (uF (uF g 32 B2) 33 D2) 34 K2) 35 F2) 36 H2) 38 B3) 39 F3) 40 H3) 41 L3) R2 ds y2 ∧ y1 = 0 ∧ tnRes (g 21) (v 4) R = .inr (p2, m2, x2, R2) ∧ okTS (p2, m2, x2, R2) ∧ (∀ x, 0 ≤ x → x < 6 → B2 x = colR R2 0 x) ∧ (∀ x, 0 ≤ x → x < 6 → D2 x = colR R2 1 x) ∧ (∀ x, 0 ≤ x → x < 6 → K2 x = colR R2 2 x) ∧ (∀ x, 0 ≤ x → x < 6 → F2 x = colR R2 3 x) ∧ (∀ x, 0 ≤ x → x < 6 → H2 x = colR R2 4 x) ∧ (∀ x, 0 ≤ x → x < 6 → B3 x = colR R2 0 x) ∧ (∀ x, 0 ≤ x → x < 6 → F3 x = colR R2 3 x) ∧ (∀ x, 0 ≤ x → x < 6 → H3 x = colR R2 4 x) ∧ (∀ x, 0 ≤ x → x < 6 → L3 x = 0) ∧ okW ds y2 m2 p2) ∨ (z = -1 ∧ u = CW a v g R ds ys ∧ y1 = 1 ∧ 4 ≤ (v 1)) ∨ (∃ fl : Int, ∃ a2 : Int, ∃ x2 : Int, ∃ C2 : Int → Int, z = -1 ∧ u = CW a (uF (uF (uF v 10 a2) 11 fl) 12 x2) (uF g 30 C2) R ds ys ∧ y1 = 1 ∧ (v 1) < 4 ∧ lwRes (g 21) (v 4) = .inl fl) ∨ (∃ a2 : Int, ∃ x2 : Int, ∃ C2 : Int → Int, ∃ cs : List (List Int × List Int), ∃ x9 : LwS, ∃ v9 : LwY, z = (v 1) ∧ u = CW a (uF (uF (uF (uF (uF v 1 ((v 1) + 1)) 4 0) 10 a2) 11 (-1)) 12 x2) (uF g 30 C2) R (ds ++ [x9]) (uN ys ds.length v9) ∧ y1 = 1 ∧ (v 1) < 4 ∧ pLawLS (g 21) (v 4) 161 0 [] = .inr cs ∧ x9.cs = cs ∧ lwSok x9 ∧ v9.kn = 0)
set_option maxRecDepth 100000 in
set_option maxHeartbeats 4000000 in
theorem qX11_text (l : Launch) (a : Nat → Nat) (v : Nat → Int) (g : Nat → Int → Int) (R : Int → Int → Int) (ds : List LwS) (ys : Nat → LwY) (y1 : Int) (hT : okT (g 21) (v 4)) (htn : 0 ≤ (v 4) ∧ (v 4) ≤ 160) (hx_v : inR y1) (hds : (ds.length : Int) = (v 1) ∧ 0 ≤ (v 1) ∧ (v 1) ≤ 4) (hdy : okW ds ys (v 14) (v 13)) : AMi l yX11_text cX11_text 2 .int 33 4 1325 [rv (a 19), iv y1] (CW a v g R ds ys) (QX11_text a v g R ds ys y1) := by
  have hk := (kX11_text l (a 19) (o10 a v) (a 20) (o6 a v) (v 4) (a 21) (g 21) (a 22) (o8 a v) (v 5) (v 6) (v 7) (a 23) (o7d a v) (v 8) (v 9) (a 24) (a 25) (a 26) (a 27) (a 28) R (a 29) (o2 a v) (v 10) (v 11) (v 12) (a 30) (g 30) (v 3) (a 31) (o7w a v) (v 13) (v 14) (a 32) (a 33) (a 34) (a 35) (a 36) (g 32) (g 33) (g 34) (g 35) (g 36) (a 37) (o5s a v) (v 13) (v 21) (v 22) (v 23) (a 38) (a 39) (a 40) (a 41) (g 38) (g 39) (g 40) (g 41) (a 42) (o0 a v) (v 15) (v 16) (v 17) (v 18) (v 19) (a 43) (o9 a v) (v 35) ds ys (v 14) (v 13) (v 1) (a 44) y1 rfl rfl rfl rfl rfl rfl rfl rfl rfl rfl rfl rfl rfl rfl rfl rfl rfl rfl rfl rfl rfl rfl rfl rfl rfl rfl rfl hT htn hx_v hds hdy)
  simp only [Po0_0, Po0_1, Po0_2, Po0_3, Po0_4, Po10_13, Po10_15, Po2_1, Po2_2, Po2_4, Po5s_0, Po5s_1, Po5s_2, Po5s_3, Po6_1, Po7d_0, Po7d_1, Po7w_0, Po7w_1, Po8_1, Po8_2, Po8_4, Po9_0, uF_self] at hk
  refine AMi.frAT (wl := CF a v g R ds) (wr := (CF a v g R ds).take 19) hk rfl (fun z u hq => ?_)
  rcases hq with ⟨hz, hu, hv⟩ | ⟨fl, a2, x2, p2, m2, R2, hz, hu, hv, hr⟩ | ⟨a2, x2, p2, m2, R2, B2, D2, K2, F2, H2, B3, F3, H3, L3, y2, hz, hu, hv, hr, hk, hB2, hD2, hK2, hF2, hH2, hB3, hF3, hH3, hL3, hy2⟩ | ⟨hz, hu, hv, hl⟩ | ⟨fl, a2, x2, C2, hz, hu, hv, hl, hr⟩ | ⟨a2, x2, C2, cs, x9, v9, hz, hu, hv, hl, hr, hcs, hok, hkn⟩
  · subst hu
    exact ⟨CW a v g R ds ys, rfl, Or.inl ⟨hz, rfl, hv⟩⟩
  · subst hu
    exact ⟨CW a (uF (uF (uF (uF (uF v 5 a2) 6 fl) 7 x2) 8 p2) 9 m2) g R2 ds ys, rfl, Or.inr (Or.inl ⟨fl, a2, x2, p2, m2, R2, hz, rfl, hv, hr⟩)⟩
  · subst hu
    exact ⟨CW a (uF (uF (uF (uF (uF (uF (uF (uF (uF (uF (uF (uF (uF (uF (uF v 3 0) 4 0) 5 a2) 6 (-1)) 7 x2) 8 p2) 9 m2) 13 p2) 14 m2) 15 0) 16 0) 17 0) 19 0) 23 0) 35 0) (uF (uF (uF (uF (uF (uF (uF (uF (uF g 32 B2) 33 D2) 34 K2) 35 F2) 36 H2) 38 B3) 39 F3) 40 H3) 41 L3) R2 ds y2, rfl, Or.inr (Or.inr (Or.inl ⟨a2, x2, p2, m2, R2, B2, D2, K2, F2, H2, B3, F3, H3, L3, y2, hz, rfl, hv, hr, hk, hB2, hD2, hK2, hF2, hH2, hB3, hF3, hH3, hL3, hy2⟩))⟩
  · subst hu
    exact ⟨CW a v g R ds ys, rfl, Or.inr (Or.inr (Or.inr (Or.inl ⟨hz, rfl, hv, hl⟩)))⟩
  · subst hu
    exact ⟨CW a (uF (uF (uF v 10 a2) 11 fl) 12 x2) (uF g 30 C2) R ds ys, rfl, Or.inr (Or.inr (Or.inr (Or.inr (Or.inl ⟨fl, a2, x2, C2, hz, rfl, hv, hl, hr⟩))))⟩
  · subst hu
    exact ⟨CW a (uF (uF (uF (uF (uF v 1 ((v 1) + 1)) 4 0) 10 a2) 11 (-1)) 12 x2) (uF g 30 C2) R (ds ++ [x9]) (uN ys ds.length v9), rfl, Or.inr (Or.inr (Or.inr (Or.inr (Or.inr (⟨a2, x2, C2, cs, x9, v9, hz, rfl, hv, hl, hr, hcs, hok, hkn⟩)))))⟩
def QX11_set (a : Nat → Nat) (v : Nat → Int) (g : Nat → Int → Int) (R : Int → Int → Int) (ds : List LwS) (ys : Nat → LwY) (y1 y2 : Int) (z : Int) (u : EW) : Prop := (z = 0 ∧ u = CW a v g R ds ys ∧ (¬ ((y1 = 0 ∧ -1 ≤ y2 ∧ y2 < (v 1)) ∨ (y1 = 1 ∧ 1 ≤ y2 ∧ y2 ≤ 30) ∨ (y1 = 2 ∧ 0 ≤ y2 ∧ y2 ≤ 3) ∨ (y1 = 3 ∧ 0 ≤ y2 ∧ y2 ≤ 999)))) ∨ (z = 1 ∧ u = CW a (uF (uF v 2 y2) 35 0) g R ds ys ∧ (y1 = 0 ∧ -1 ≤ y2 ∧ y2 < (v 1))) ∨ (z = 1 ∧ u = CW a (uF (uF v 21 y2) 35 0) g R ds ys ∧ (y1 = 1 ∧ 1 ≤ y2 ∧ y2 ≤ 30)) ∨ (z = 1 ∧ u = CW a (uF (uF v 22 y2) 35 0) g R ds ys ∧ (y1 = 2 ∧ 0 ≤ y2 ∧ y2 ≤ 3)) ∨ (z = 1 ∧ u = CW a (uF (uF v 0 y2) 35 0) g R ds ys ∧ (y1 = 3 ∧ 0 ≤ y2 ∧ y2 ≤ 999))
set_option maxRecDepth 100000 in
set_option maxHeartbeats 4000000 in
theorem qX11_set (l : Launch) (a : Nat → Nat) (v : Nat → Int) (g : Nat → Int → Int) (R : Int → Int → Int) (ds : List LwS) (ys : Nat → LwY) (y1 y2 : Int) (hlw : 0 ≤ (v 1) ∧ (v 1) ≤ 4) (hx_v : inR y1) (hx_x : inR y2) : AMi l yX11_set cX11_set 4 .boolean 1 0 0 [rv (a 19), iv y1, iv y2] (CW a v g R ds ys) (QX11_set a v g R ds ys y1 y2) := by
  have hk := (kX11_set l (a 19) (o10 a v) (o5s a v) (v 21) (v 22) (a 37) (a 43) (o9 a v) (v 35) (v 0) (v 2) (v 1) y1 y2 rfl rfl rfl hlw hx_v hx_x)
  simp only [Po10_12, Po10_14, Po5s_1, Po5s_2, Po9_0, uF_self] at hk
  refine AMi.gL (wl := CF a v g R ds) (is := [19, 37, 43]) [0, 1, 2, 3, 4, 5, 6, 7, 8, 9, 10, 11, 12, 13, 14, 15, 16, 17, 18, 20, 21, 22, 23, 24, 25, 26, 27, 28, 29, 30, 31, 32, 33, 34, 35, 36, 38, 39, 40, 41, 42, 44] 45 hk rfl rfl (by decide +kernel) (by decide +kernel) (fun z u hq => ?_)
  rcases hq with ⟨hz, hu, hq⟩ | ⟨hz, hu, hq⟩ | ⟨hz, hu, hq⟩ | ⟨hz, hu, hq⟩ | ⟨hz, hu, hq⟩
  · subst hu
    exact ⟨rfl, CF a v g R ds, rfl, rfl, CF_rest (by decide) rfl, Or.inl ⟨hz, rfl, hq⟩⟩
  · subst hu
    exact ⟨rfl, CF a (uF (uF v 2 y2) 35 0) g R ds, rfl, rfl, CF_rest (by decide) rfl, Or.inr (Or.inl ⟨hz, rfl, hq⟩)⟩
  · subst hu
    exact ⟨rfl, CF a (uF (uF v 21 y2) 35 0) g R ds, rfl, rfl, CF_rest (by decide) rfl, Or.inr (Or.inr (Or.inl ⟨hz, rfl, hq⟩))⟩
  · subst hu
    exact ⟨rfl, CF a (uF (uF v 22 y2) 35 0) g R ds, rfl, rfl, CF_rest (by decide) rfl, Or.inr (Or.inr (Or.inr (Or.inl ⟨hz, rfl, hq⟩)))⟩
  · subst hu
    exact ⟨rfl, CF a (uF (uF v 0 y2) 35 0) g R ds, rfl, rfl, CF_rest (by decide) rfl, Or.inr (Or.inr (Or.inr (Or.inr (⟨hz, rfl, hq⟩))))⟩
def QX11_tell (a : Nat → Nat) (v : Nat → Int) (g : Nat → Int → Int) (R : Int → Int → Int) (ds : List LwS) (ys : Nat → LwY) (y1 y2 y3 : Int) (z : Int) (u : EW) : Prop := (z = 0 ∧ u = CW a v g R ds ys ∧ (¬ ((0 ≤ y1 ∧ y1 < (v 13)) ∧ ((y2 = 0 ∧ -1 ≤ y3 ∧ y3 < (v 13) ∧ y3 ≠ y1) ∨ (y2 = 1 ∧ 0 ≤ y3 ∧ y3 ≤ 10) ∨ (y2 = 2 ∧ 0 ≤ y3 ∧ y3 ≤ 50))))) ∨ (z = 1 ∧ u = CW a (uF v 35 0) (uF g 39 (uZ (g 39) y1 y3)) R ds ys ∧ ((0 ≤ y1 ∧ y1 < (v 13)) ∧ y2 = 0 ∧ -1 ≤ y3 ∧ y3 < (v 13) ∧ y3 ≠ y1)) ∨ (z = 1 ∧ u = CW a (uF v 35 0) (uF g 40 (uZ (g 40) y1 y3)) R ds ys ∧ ((0 ≤ y1 ∧ y1 < (v 13)) ∧ y2 = 1 ∧ 0 ≤ y3 ∧ y3 ≤ 10)) ∨ (z = 1 ∧ u = CW a (uF v 35 0) (uF g 41 (uZ (g 41) y1 y3)) R ds ys ∧ ((0 ≤ y1 ∧ y1 < (v 13)) ∧ y2 = 2 ∧ 0 ≤ y3 ∧ y3 ≤ 50))
set_option maxRecDepth 100000 in
set_option maxHeartbeats 4000000 in
theorem qX11_tell (l : Launch) (a : Nat → Nat) (v : Nat → Int) (g : Nat → Int → Int) (R : Int → Int → Int) (ds : List LwS) (ys : Nat → LwY) (y1 y2 y3 : Int) (hpl : 0 ≤ (v 13) ∧ (v 13) ≤ 6) (hx_q : inR y1) (hx_v : inR y2) (hx_x : inR y3) : AMi l yX11_tell cX11_tell 4 .boolean 2 0 0 [rv (a 19), iv y1, iv y2, iv y3] (CW a v g R ds ys) (QX11_tell a v g R ds ys y1 y2 y3) := by
  have hk := (kX11_tell l (a 19) (o10 a v) (a 31) (o7w a v) (o5s a v) (v 13) (a 37) (a 39) (a 40) (a 41) (g 39) (g 40) (g 41) (a 43) (o9 a v) (v 35) y1 y2 y3 rfl rfl rfl rfl rfl rfl rfl hpl hx_q hx_v hx_x)
  simp only [Po9_0, uF_self] at hk
  refine AMi.gL (wl := CF a v g R ds) (is := [19, 31, 37, 39, 40, 41, 43]) [0, 1, 2, 3, 4, 5, 6, 7, 8, 9, 10, 11, 12, 13, 14, 15, 16, 17, 18, 20, 21, 22, 23, 24, 25, 26, 27, 28, 29, 30, 32, 33, 34, 35, 36, 38, 42, 44] 45 hk rfl rfl (by decide +kernel) (by decide +kernel) (fun z u hq => ?_)
  rcases hq with ⟨hz, hu, hq⟩ | ⟨hz, hu, hq⟩ | ⟨hz, hu, hq⟩ | ⟨hz, hu, hq⟩
  · subst hu
    exact ⟨rfl, CF a v g R ds, rfl, rfl, CF_rest (by decide) rfl, Or.inl ⟨hz, rfl, hq⟩⟩
  · subst hu
    exact ⟨rfl, CF a (uF v 35 0) (uF g 39 (uZ (g 39) y1 y3)) R ds, rfl, rfl, CF_rest (by decide) rfl, Or.inr (Or.inl ⟨hz, rfl, hq⟩)⟩
  · subst hu
    exact ⟨rfl, CF a (uF v 35 0) (uF g 40 (uZ (g 40) y1 y3)) R ds, rfl, rfl, CF_rest (by decide) rfl, Or.inr (Or.inr (Or.inl ⟨hz, rfl, hq⟩))⟩
  · subst hu
    exact ⟨rfl, CF a (uF v 35 0) (uF g 41 (uZ (g 41) y1 y3)) R ds, rfl, rfl, CF_rest (by decide) rfl, Or.inr (Or.inr (Or.inr (⟨hz, rfl, hq⟩)))⟩
def QX11_mark (a : Nat → Nat) (v : Nat → Int) (g : Nat → Int → Int) (R : Int → Int → Int) (ds : List LwS) (ys : Nat → LwY) (y1 y2 : Int) (z : Int) (u : EW) : Prop := (z = 0 ∧ u = CW a v g R ds ys ∧ ((v 13) = 0 ∨ y1 < 0 ∨ 29 < y1 ∨ zAnd (zShr (v 23) y1) 1 = y2)) ∨ (z = 1 ∧ u = CW a (uF (uF v 23 (zXor (v 23) (zShl 1 y1))) 35 0) g R ds ys ∧ (1 ≤ (v 13) ∧ 0 ≤ y1 ∧ y1 ≤ 29 ∧ zAnd (zShr (v 23) y1) 1 ≠ y2))
set_option maxRecDepth 100000 in
set_option maxHeartbeats 4000000 in
theorem qX11_mark (l : Launch) (a : Nat → Nat) (v : Nat → Int) (g : Nat → Int → Int) (R : Int → Int → Int) (ds : List LwS) (ys : Nat → LwY) (y1 y2 : Int) (hpl : 0 ≤ (v 13) ∧ (v 13) ≤ 6) (hx_b : inR y1) (hv : y2 = 0 ∨ y2 = 1) : AMi l yX11_mark cX11_mark 3 .boolean 1 0 0 [rv (a 19), iv y1, iv y2] (CW a v g R ds ys) (QX11_mark a v g R ds ys y1 y2) := by
  have hk := (kX11_mark l (a 19) (o10 a v) (a 31) (o7w a v) (o5s a v) (v 13) (v 23) (a 37) (a 43) (o9 a v) (v 35) y1 y2 rfl rfl rfl rfl hpl hx_b hv)
  simp only [Po5s_3, Po9_0, uF_self] at hk
  refine AMi.gL (wl := CF a v g R ds) (is := [19, 31, 37, 43]) [0, 1, 2, 3, 4, 5, 6, 7, 8, 9, 10, 11, 12, 13, 14, 15, 16, 17, 18, 20, 21, 22, 23, 24, 25, 26, 27, 28, 29, 30, 32, 33, 34, 35, 36, 38, 39, 40, 41, 42, 44] 45 hk rfl rfl (by decide +kernel) (by decide +kernel) (fun z u hq => ?_)
  rcases hq with ⟨hz, hu, hq⟩ | ⟨hz, hu, hq⟩
  · subst hu
    exact ⟨rfl, CF a v g R ds, rfl, rfl, CF_rest (by decide) rfl, Or.inl ⟨hz, rfl, hq⟩⟩
  · subst hu
    exact ⟨rfl, CF a (uF (uF v 23 (zXor (v 23) (zShl 1 y1))) 35 0) g R ds, rfl, rfl, CF_rest (by decide) rfl, Or.inr (⟨hz, rfl, hq⟩)⟩
def QX11_damp (a : Nat → Nat) (v : Nat → Int) (g : Nat → Int → Int) (R : Int → Int → Int) (ds : List LwS) (ys : Nat → LwY) (y1 : Int) (z : Int) (u : EW) : Prop := ∃ y2 : Nat → LwY, z = aDamp (v 2) (csA ds (v 2)) (v 14) (v 13) y1 ∧ u = CW a v g R ds y2 ∧ okW ds y2 (v 14) (v 13)
set_option maxRecDepth 100000 in
set_option maxHeartbeats 4000000 in
theorem qX11_damp (l : Launch) (a : Nat → Nat) (v : Nat → Int) (g : Nat → Int → Int) (R : Int → Int → Int) (ds : List LwS) (ys : Nat → LwY) (y1 : Int) (hpl : 0 ≤ (v 13) ∧ (v 13) ≤ 6) (hmt0 : 1 ≤ (v 13) → 1 ≤ (v 14) ∧ (v 14) ≤ 99) (hds : (ds.length : Int) = (v 1) ∧ 0 ≤ (v 1) ∧ (v 1) ≤ 4) (hdy : okW ds ys (v 14) (v 13)) (hho : -1 ≤ (v 2) ∧ (v 2) < (v 1)) (hx_dd : inR y1) : AMi l yX11_damp cX11_damp 2 .int 6 0 0 [rv (a 19), iv y1] (CW a v g R ds ys) (QX11_damp a v g R ds ys y1) := by
  have hk := (kX11_damp l (a 19) (o10 a v) (a 31) (o7w a v) (v 13) ds ys (v 14) (v 1) (a 44) (v 2) y1 rfl rfl rfl rfl rfl hpl hmt0 hds hdy hho hx_dd)
  refine AMi.gT (wl := CF a v g R ds) (is := [19, 31, 44]) [0, 1, 2, 3, 4, 5, 6, 7, 8, 9, 10, 11, 12, 13, 14, 15, 16, 17, 18, 20, 21, 22, 23, 24, 25, 26, 27, 28, 29, 30, 32, 33, 34, 35, 36, 37, 38, 39, 40, 41, 42, 43] 45 hk rfl rfl (by decide +kernel) (by decide +kernel) (fun z u hq => ?_)
  obtain ⟨y2, hz, hu, hy2⟩ := hq
  subst hu
  exact ⟨_, _, rfl, rfl, lwT_key _ _ _, CF a v g R ds, rfl, rfl, CF_rest (by decide) rfl, ⟨y2, hz, rfl, hy2⟩⟩
def QX11_day (a : Nat → Nat) (v : Nat → Int) (g : Nat → Int → Int) (R : Int → Int → Int) (ds : List LwS) (ys : Nat → LwY) (y1 : Int) (z : Int) (u : EW) : Prop := (z = -1 ∧ u = CW a v g R ds ys ∧ (¬ (1 ≤ (v 13) ∧ (y1 = -1 ∨ (0 ≤ y1 ∧ y1 < (v 13))) ∧ (v 15) ≤ 999))) ∨ (∃ y2 : Nat → LwY, z = (v 15) + 1 ∧ u = CW a (uF (uF (uF (uF v 15 ((v 15) + 1)) 16 (min ((v 16) + 1) 60)) 19 (((v 19) + 1).tmod 60)) 35 0) (uF (uF g 1 (cpZ (g 38) (g 1) 0 ((v 19) * 6) 6)) 38 (paF (g 34) (g 33) (v 14) y1 (aDy (v 2) (csA ds (v 2)) (v 14) (v 13) (v 15)) (v 13) (g 38))) R ds y2 ∧ okW ds y2 (v 14) (v 13) ∧ (1 ≤ (v 13) ∧ (y1 = -1 ∨ (0 ≤ y1 ∧ y1 < (v 13))) ∧ (v 15) ≤ 999))
set_option maxRecDepth 100000 in
set_option maxHeartbeats 4000000 in
theorem qX11_day (l : Launch) (a : Nat → Nat) (v : Nat → Int) (g : Nat → Int → Int) (R : Int → Int → Int) (ds : List LwS) (ys : Nat → LwY) (y1 : Int) (hpl : 0 ≤ (v 13) ∧ (v 13) ≤ 6) (hod0 : 1 ≤ (v 13) → okDy (v 13) (v 14) (g 34) (g 33)) (hB : ∀ p, 0 ≤ p → p < (v 13) → 1 ≤ (g 38) p ∧ (g 38) p ≤ 199) (hds : (ds.length : Int) = (v 1) ∧ 0 ≤ (v 1) ∧ (v 1) ≤ 4) (hdy : okW ds ys (v 14) (v 13)) (hho : -1 ≤ (v 2) ∧ (v 2) < (v 1)) (hnx : 0 ≤ (v 19) ∧ (v 19) ≤ 59) (hun : 0 ≤ (v 16) ∧ (v 16) ≤ 60) (htd : 0 ≤ (v 15) ∧ (v 15) ≤ 1000) (hx_q : inR y1) : AMi l yX11_day cX11_day 3 .int 6 0 0 [rv (a 19), iv y1] (CW a v g R ds ys) (QX11_day a v g R ds ys y1) := by
  have hk := (kX11_day l (a 19) (o10 a v) (a 31) (o7w a v) (o5s a v) (v 13) (a 37) (a 38) (g 38) (a 43) (o9 a v) (v 35) (a 42) (o0 a v) (a 1) (g 1) (v 15) (v 16) (v 17) (v 18) (v 19) (a 33) (a 34) (g 33) (g 34) ds ys (v 14) (v 1) (a 44) (v 2) y1 rfl rfl rfl rfl rfl rfl rfl rfl rfl rfl rfl rfl hpl hod0 hB hds hdy hho hnx hun htd hx_q)
  simp only [Po0_0, Po0_1, Po0_2, Po0_3, Po0_4, Po9_0, uF_self] at hk
  refine AMi.gT (wl := CF a v g R ds) (is := [19, 31, 44, 33, 34, 42, 1, 37, 38, 43]) [0, 2, 3, 4, 5, 6, 7, 8, 9, 10, 11, 12, 13, 14, 15, 16, 17, 18, 20, 21, 22, 23, 24, 25, 26, 27, 28, 29, 30, 32, 35, 36, 39, 40, 41] 45 hk rfl rfl (by decide +kernel) (by decide +kernel) (fun z u hq => ?_)
  rcases hq with ⟨hz, hu, hq⟩ | ⟨y2, hz, hu, hy2, hq⟩
  · subst hu
    exact ⟨_, _, rfl, rfl, lwT_key _ _ _, CF a v g R ds, rfl, rfl, CF_rest (by decide) rfl, Or.inl ⟨hz, rfl, hq⟩⟩
  · subst hu
    exact ⟨_, _, rfl, rfl, lwT_key _ _ _, CF a (uF (uF (uF (uF v 15 ((v 15) + 1)) 16 (min ((v 16) + 1) 60)) 19 (((v 19) + 1).tmod 60)) 35 0) (uF (uF g 1 (cpZ (g 38) (g 1) 0 ((v 19) * 6) 6)) 38 (paF (g 34) (g 33) (v 14) y1 (aDy (v 2) (csA ds (v 2)) (v 14) (v 13) (v 15)) (v 13) (g 38))) R ds, rfl, rfl, CF_rest (by decide) rfl, Or.inr (⟨y2, hz, rfl, hy2, hq⟩)⟩
def QX11_undo (a : Nat → Nat) (v : Nat → Int) (g : Nat → Int → Int) (R : Int → Int → Int) (ds : List LwS) (ys : Nat → LwY) (z : Int) (u : EW) : Prop := (z = -1 ∧ u = CW a v g R ds ys ∧ (v 16) = 0) ∨ (z = (v 15) - 1 ∧ u = CW a (uF (uF (uF (uF v 15 ((v 15) - 1)) 16 ((v 16) - 1)) 19 (((v 19) + 60 - 1).tmod 60)) 35 0) (uF g 38 (cpZ (g 1) (g 38) (((v 19) + 60 - 1).tmod 60 * 6) 0 6)) R ds ys ∧ 1 ≤ (v 16))
set_option maxRecDepth 100000 in
set_option maxHeartbeats 4000000 in
theorem qX11_undo (l : Launch) (a : Nat → Nat) (v : Nat → Int) (g : Nat → Int → Int) (R : Int → Int → Int) (ds : List LwS) (ys : Nat → LwY) (hnx : 0 ≤ (v 19) ∧ (v 19) ≤ 59) (hun : 0 ≤ (v 16) ∧ (v 16) ≤ 60) : AMi l yX11_undo cX11_undo 1 .int 2 0 0 [rv (a 19)] (CW a v g R ds ys) (QX11_undo a v g R ds ys) := by
  have hk := (kX11_undo l (a 19) (o10 a v) (o5s a v) (a 37) (a 38) (g 38) (a 43) (o9 a v) (v 35) (a 42) (o0 a v) (a 1) (g 1) (v 15) (v 16) (v 17) (v 18) (v 19) rfl rfl rfl rfl rfl hnx hun)
  simp only [Po0_0, Po0_1, Po0_2, Po0_3, Po0_4, Po9_0, uF_self] at hk
  refine AMi.gL (wl := CF a v g R ds) (is := [19, 42, 1, 37, 38, 43]) [0, 2, 3, 4, 5, 6, 7, 8, 9, 10, 11, 12, 13, 14, 15, 16, 17, 18, 20, 21, 22, 23, 24, 25, 26, 27, 28, 29, 30, 31, 32, 33, 34, 35, 36, 39, 40, 41, 44] 45 hk rfl rfl (by decide +kernel) (by decide +kernel) (fun z u hq => ?_)
  rcases hq with ⟨hz, hu, hq⟩ | ⟨hz, hu, hq⟩
  · subst hu
    exact ⟨rfl, CF a v g R ds, rfl, rfl, CF_rest (by decide) rfl, Or.inl ⟨hz, rfl, hq⟩⟩
  · subst hu
    exact ⟨rfl, CF a (uF (uF (uF (uF v 15 ((v 15) - 1)) 16 ((v 16) - 1)) 19 (((v 19) + 60 - 1).tmod 60)) 35 0) (uF g 38 (cpZ (g 1) (g 38) (((v 19) + 60 - 1).tmod 60 * 6) 0 6)) R ds, rfl, rfl, CF_rest (by decide) rfl, Or.inr (⟨hz, rfl, hq⟩)⟩
def QX11_time (a : Nat → Nat) (v : Nat → Int) (g : Nat → Int → Int) (R : Int → Int → Int) (ds : List LwS) (ys : Nat → LwY) (y1 y2 y3 : Int) (z : Int) (u : EW) : Prop := ∃ p9 : Int, ∃ n9 : Int, ∃ k9 : Int, ∃ A2 : Int → Int, ∃ T2 : Int → Int, ∃ W2 : Int → Int, ∃ S2 : Int → Int, z = aTime (v 13) (v 21) (v 22) (v 23) (g 39) (g 40) (g 38) (g 41) y1 y2 y3 ∧ u = CW a (uF (uF (uF v 30 p9) 31 n9) 32 k9) (uF (uF (uF (uF g 9 A2) 10 T2) 11 W2) 12 S2) R ds ys
set_option maxRecDepth 100000 in
set_option maxHeartbeats 4000000 in
theorem qX11_time (l : Launch) (a : Nat → Nat) (v : Nat → Int) (g : Nat → Int → Int) (R : Int → Int → Int) (ds : List LwS) (ys : Nat → LwY) (y1 y2 y3 : Int) (hz : okZ (v 13) (v 21) (v 22) (g 39) (g 40) (g 38) (g 41)) (hx_q : inR y1) (hx_b : inR y2) (hx_v : inR y3) : AMi l yX11_time cX11_time 4 .int 4 0 0 [rv (a 19), iv y1, iv y2, iv y3] (CW a v g R ds ys) (QX11_time a v g R ds ys y1 y2 y3) := by
  have hk := (kX11_time l (a 19) (o10 a v) (a 31) (o7w a v) (o4 a v) (o5s a v) (v 13) (v 21) (v 22) (v 23) (a 8) (a 37) (a 9) (a 10) (a 11) (a 12) (a 38) (a 39) (a 40) (a 41) (g 9) (g 10) (g 11) (g 12) (g 38) (g 39) (g 40) (g 41) (v 30) (v 31) (v 32) y1 y2 y3 rfl rfl rfl rfl rfl rfl rfl rfl rfl rfl rfl rfl rfl rfl rfl rfl hz hx_q hx_b hx_v)
  simp only [Po4_6, Po4_7, Po4_8, uF_self] at hk
  refine AMi.gL (wl := CF a v g R ds) (is := [19, 31, 8, 9, 10, 11, 12, 37, 38, 39, 40, 41]) [0, 1, 2, 3, 4, 5, 6, 7, 13, 14, 15, 16, 17, 18, 20, 21, 22, 23, 24, 25, 26, 27, 28, 29, 30, 32, 33, 34, 35, 36, 42, 43, 44] 45 hk rfl rfl (by decide +kernel) (by decide +kernel) (fun z u hq => ?_)
  obtain ⟨p9, n9, k9, A2, T2, W2, S2, hz, hu⟩ := hq
  subst hu
  exact ⟨rfl, CF a (uF (uF (uF v 30 p9) 31 n9) 32 k9) (uF (uF (uF (uF g 9 A2) 10 T2) 11 W2) 12 S2) R ds, rfl, rfl, CF_rest (by decide) rfl, ⟨p9, n9, k9, A2, T2, W2, S2, hz, rfl⟩⟩
def QX11_spread (a : Nat → Nat) (v : Nat → Int) (g : Nat → Int → Int) (R : Int → Int → Int) (ds : List LwS) (ys : Nat → LwY) (y1 : Int) (z : Int) (u : EW) : Prop := ∃ p9 : Int, ∃ n9 : Int, ∃ k9 : Int, ∃ A2 : Int → Int, ∃ T2 : Int → Int, ∃ W2 : Int → Int, ∃ S2 : Int → Int, z = aSpread (v 13) (v 21) (v 22) (v 23) (g 39) (g 40) (g 38) (g 41) y1 ∧ u = CW a (uF (uF (uF v 30 p9) 31 n9) 32 k9) (uF (uF (uF (uF g 9 A2) 10 T2) 11 W2) 12 S2) R ds ys
set_option maxRecDepth 100000 in
set_option maxHeartbeats 4000000 in
theorem qX11_spread (l : Launch) (a : Nat → Nat) (v : Nat → Int) (g : Nat → Int → Int) (R : Int → Int → Int) (ds : List LwS) (ys : Nat → LwY) (y1 : Int) (hz : okZ (v 13) (v 21) (v 22) (g 39) (g 40) (g 38) (g 41)) (hx_b : inR y1) : AMi l yX11_spread cX11_spread 2 .int 4 0 0 [rv (a 19), iv y1] (CW a v g R ds ys) (QX11_spread a v g R ds ys y1) := by
  have hk := (kX11_spread l (a 19) (o10 a v) (a 31) (o7w a v) (o4 a v) (o5s a v) (v 13) (v 21) (v 22) (v 23) (a 8) (a 37) (a 9) (a 10) (a 11) (a 12) (a 38) (a 39) (a 40) (a 41) (g 9) (g 10) (g 11) (g 12) (g 38) (g 39) (g 40) (g 41) (v 30) (v 31) (v 32) y1 rfl rfl rfl rfl rfl rfl rfl rfl rfl rfl rfl rfl rfl rfl rfl rfl hz hx_b)
  simp only [Po4_6, Po4_7, Po4_8, uF_self] at hk
  refine AMi.gL (wl := CF a v g R ds) (is := [19, 31, 8, 9, 10, 11, 12, 37, 38, 39, 40, 41]) [0, 1, 2, 3, 4, 5, 6, 7, 13, 14, 15, 16, 17, 18, 20, 21, 22, 23, 24, 25, 26, 27, 28, 29, 30, 32, 33, 34, 35, 36, 42, 43, 44] 45 hk rfl rfl (by decide +kernel) (by decide +kernel) (fun z u hq => ?_)
  obtain ⟨p9, n9, k9, A2, T2, W2, S2, hz, hu⟩ := hq
  subst hu
  exact ⟨rfl, CF a (uF (uF (uF v 30 p9) 31 n9) 32 k9) (uF (uF (uF (uF g 9 A2) 10 T2) 11 W2) 12 S2) R ds, rfl, rfl, CF_rest (by decide) rfl, ⟨p9, n9, k9, A2, T2, W2, S2, hz, rfl⟩⟩
def QX11_worst (a : Nat → Nat) (v : Nat → Int) (g : Nat → Int → Int) (R : Int → Int → Int) (ds : List LwS) (ys : Nat → LwY) (y1 : Int) (z : Int) (u : EW) : Prop := ∃ p9 : Int, ∃ n9 : Int, ∃ k9 : Int, ∃ A2 : Int → Int, ∃ T2 : Int → Int, ∃ W2 : Int → Int, ∃ S2 : Int → Int, z = aWorst (v 13) (v 21) (v 22) (v 23) (g 39) (g 40) (g 38) (g 41) y1 ∧ u = CW a (uF (uF (uF v 30 p9) 31 n9) 32 k9) (uF (uF (uF (uF g 9 A2) 10 T2) 11 W2) 12 S2) R ds ys
set_option maxRecDepth 100000 in
set_option maxHeartbeats 4000000 in
theorem qX11_worst (l : Launch) (a : Nat → Nat) (v : Nat → Int) (g : Nat → Int → Int) (R : Int → Int → Int) (ds : List LwS) (ys : Nat → LwY) (y1 : Int) (hz : okZ (v 13) (v 21) (v 22) (g 39) (g 40) (g 38) (g 41)) (hx_v : inR y1) : AMi l yX11_worst cX11_worst 3 .int 4 0 0 [rv (a 19), iv y1] (CW a v g R ds ys) (QX11_worst a v g R ds ys y1) := by
  have hk := (kX11_worst l (a 19) (o10 a v) (a 31) (o7w a v) (o4 a v) (o5s a v) (v 13) (v 21) (v 22) (v 23) (a 8) (a 37) (a 9) (a 10) (a 11) (a 12) (a 38) (a 39) (a 40) (a 41) (g 9) (g 10) (g 11) (g 12) (g 38) (g 39) (g 40) (g 41) (v 30) (v 31) (v 32) y1 rfl rfl rfl rfl rfl rfl rfl rfl rfl rfl rfl rfl rfl rfl rfl rfl hz hx_v)
  simp only [Po4_6, Po4_7, Po4_8, uF_self] at hk
  refine AMi.gL (wl := CF a v g R ds) (is := [19, 31, 8, 9, 10, 11, 12, 37, 38, 39, 40, 41]) [0, 1, 2, 3, 4, 5, 6, 7, 13, 14, 15, 16, 17, 18, 20, 21, 22, 23, 24, 25, 26, 27, 28, 29, 30, 32, 33, 34, 35, 36, 42, 43, 44] 45 hk rfl rfl (by decide +kernel) (by decide +kernel) (fun z u hq => ?_)
  obtain ⟨p9, n9, k9, A2, T2, W2, S2, hz, hu⟩ := hq
  subst hu
  exact ⟨rfl, CF a (uF (uF (uF v 30 p9) 31 n9) 32 k9) (uF (uF (uF (uF g 9 A2) 10 T2) 11 W2) 12 S2) R ds, rfl, rfl, CF_rest (by decide) rfl, ⟨p9, n9, k9, A2, T2, W2, S2, hz, rfl⟩⟩
def QX11_parts (a : Nat → Nat) (v : Nat → Int) (g : Nat → Int → Int) (R : Int → Int → Int) (ds : List LwS) (ys : Nat → LwY) (z : Int) (u : EW) : Prop := ∃ p9 : Int, ∃ n9 : Int, ∃ k9 : Int, ∃ A2 : Int → Int, ∃ T2 : Int → Int, ∃ W2 : Int → Int, ∃ S2 : Int → Int, z = aParts (v 13) (v 21) (v 22) (v 23) (g 39) (g 40) (g 38) (g 41) (v 0) ∧ u = CW a (uF (uF (uF v 30 p9) 31 n9) 32 k9) (uF (uF (uF (uF g 9 A2) 10 T2) 11 W2) 12 S2) R ds ys
set_option maxRecDepth 100000 in
set_option maxHeartbeats 4000000 in
theorem qX11_parts (l : Launch) (a : Nat → Nat) (v : Nat → Int) (g : Nat → Int → Int) (R : Int → Int → Int) (ds : List LwS) (ys : Nat → LwY) (hz : okZ (v 13) (v 21) (v 22) (g 39) (g 40) (g 38) (g 41)) (hlim : 0 ≤ (v 0) ∧ (v 0) ≤ 999) : AMi l yX11_parts cX11_parts 1 .int 4 0 0 [rv (a 19)] (CW a v g R ds ys) (QX11_parts a v g R ds ys) := by
  have hk := (kX11_parts l (a 19) (o10 a v) (a 31) (o7w a v) (o4 a v) (o5s a v) (v 13) (v 21) (v 22) (v 23) (a 8) (a 37) (a 9) (a 10) (a 11) (a 12) (a 38) (a 39) (a 40) (a 41) (g 9) (g 10) (g 11) (g 12) (g 38) (g 39) (g 40) (g 41) (v 30) (v 31) (v 32) (v 0) rfl rfl rfl rfl rfl rfl rfl rfl rfl rfl rfl rfl rfl rfl rfl rfl rfl hz hlim)
  simp only [Po4_6, Po4_7, Po4_8, uF_self] at hk
  refine AMi.gL (wl := CF a v g R ds) (is := [19, 31, 8, 9, 10, 11, 12, 37, 38, 39, 40, 41]) [0, 1, 2, 3, 4, 5, 6, 7, 13, 14, 15, 16, 17, 18, 20, 21, 22, 23, 24, 25, 26, 27, 28, 29, 30, 32, 33, 34, 35, 36, 42, 43, 44] 45 hk rfl rfl (by decide +kernel) (by decide +kernel) (fun z u hq => ?_)
  obtain ⟨p9, n9, k9, A2, T2, W2, S2, hz, hu⟩ := hq
  subst hu
  exact ⟨rfl, CF a (uF (uF (uF v 30 p9) 31 n9) 32 k9) (uF (uF (uF (uF g 9 A2) 10 T2) 11 W2) 12 S2) R ds, rfl, rfl, CF_rest (by decide) rfl, ⟨p9, n9, k9, A2, T2, W2, S2, hz, rfl⟩⟩
def QX11_last (a : Nat → Nat) (v : Nat → Int) (g : Nat → Int → Int) (R : Int → Int → Int) (ds : List LwS) (ys : Nat → LwY) (y1 : Int) (z : Int) (u : EW) : Prop := ∃ p9 : Int, ∃ n9 : Int, ∃ k9 : Int, ∃ A2 : Int → Int, ∃ T2 : Int → Int, ∃ W2 : Int → Int, ∃ S2 : Int → Int, z = aLast (v 13) (v 21) (v 22) (v 23) (g 39) (g 40) (g 38) (g 41) y1 ∧ u = CW a (uF (uF (uF v 30 p9) 31 n9) 32 k9) (uF (uF (uF (uF g 9 A2) 10 T2) 11 W2) 12 S2) R ds ys
set_option maxRecDepth 100000 in
set_option maxHeartbeats 4000000 in
theorem qX11_last (l : Launch) (a : Nat → Nat) (v : Nat → Int) (g : Nat → Int → Int) (R : Int → Int → Int) (ds : List LwS) (ys : Nat → LwY) (y1 : Int) (hz : okZ (v 13) (v 21) (v 22) (g 39) (g 40) (g 38) (g 41)) (hx_b : inR y1) : AMi l yX11_last cX11_last 2 .int 4 0 0 [rv (a 19), iv y1] (CW a v g R ds ys) (QX11_last a v g R ds ys y1) := by
  have hk := (kX11_last l (a 19) (o10 a v) (a 31) (o7w a v) (o4 a v) (o5s a v) (v 13) (v 21) (v 22) (v 23) (a 8) (a 37) (a 9) (a 10) (a 11) (a 12) (a 38) (a 39) (a 40) (a 41) (g 9) (g 10) (g 11) (g 12) (g 38) (g 39) (g 40) (g 41) (v 30) (v 31) (v 32) y1 rfl rfl rfl rfl rfl rfl rfl rfl rfl rfl rfl rfl rfl rfl rfl rfl hz hx_b)
  simp only [Po4_6, Po4_7, Po4_8, uF_self] at hk
  refine AMi.gL (wl := CF a v g R ds) (is := [19, 31, 8, 9, 10, 11, 12, 37, 38, 39, 40, 41]) [0, 1, 2, 3, 4, 5, 6, 7, 13, 14, 15, 16, 17, 18, 20, 21, 22, 23, 24, 25, 26, 27, 28, 29, 30, 32, 33, 34, 35, 36, 42, 43, 44] 45 hk rfl rfl (by decide +kernel) (by decide +kernel) (fun z u hq => ?_)
  obtain ⟨p9, n9, k9, A2, T2, W2, S2, hz, hu⟩ := hq
  subst hu
  exact ⟨rfl, CF a (uF (uF (uF v 30 p9) 31 n9) 32 k9) (uF (uF (uF (uF g 9 A2) 10 T2) 11 W2) 12 S2) R ds, rfl, rfl, CF_rest (by decide) rfl, ⟨p9, n9, k9, A2, T2, W2, S2, hz, rfl⟩⟩
def QX11_settle (a : Nat → Nat) (v : Nat → Int) (g : Nat → Int → Int) (R : Int → Int → Int) (ds : List LwS) (ys : Nat → LwY) (y1 : Int) (z : Int) (u : EW) : Prop := ∃ z9 : Int, ∃ p9 : Int, ∃ n9 : Int, ∃ k9 : Int, ∃ s6 : Int, ∃ s7 : Int, ∃ A2 : Int → Int, ∃ W2 : Int → Int, z = z9 ∧ u = CW a (uF (uF (uF (uF (uF v 28 s6) 29 s7) 30 p9) 31 n9) 32 k9) (uF (uF g 9 A2) 11 W2) R ds ys ∧ rSettle (v 13) (v 22) (g 39) (g 40) (g 38) y1 z9
set_option maxRecDepth 100000 in
set_option maxHeartbeats 4000000 in
theorem qX11_settle (l : Launch) (a : Nat → Nat) (v : Nat → Int) (g : Nat → Int → Int) (R : Int → Int → Int) (ds : List LwS) (ys : Nat → LwY) (y1 : Int) (hz : okZ (v 13) (v 21) (v 22) (g 39) (g 40) (g 38) (g 41)) (hv : inR y1) : AMi l yX11_settle cX11_settle 2 .int 4 0 0 [rv (a 19), iv y1] (CW a v g R ds ys) (QX11_settle a v g R ds ys y1) := by
  have hk := (kX11_settle l (a 19) (o10 a v) (a 31) (o7w a v) (o4 a v) (o5s a v) (v 13) (v 21) (v 22) (v 23) (a 8) (a 37) (a 9) (a 10) (a 11) (a 12) (a 38) (a 39) (a 40) (a 41) (g 9) (g 11) (g 38) (g 39) (g 40) (g 41) (v 30) (v 31) (v 32) (v 28) (v 29) y1 rfl rfl rfl rfl rfl rfl rfl rfl rfl rfl rfl rfl rfl rfl rfl rfl hz hv)
  simp only [Po4_4, Po4_5, Po4_6, Po4_7, Po4_8, uF_self] at hk
  refine AMi.gL (wl := CF a v g R ds) (is := [19, 31, 8, 9, 11, 37, 38, 39, 40]) [0, 1, 2, 3, 4, 5, 6, 7, 10, 12, 13, 14, 15, 16, 17, 18, 20, 21, 22, 23, 24, 25, 26, 27, 28, 29, 30, 32, 33, 34, 35, 36, 41, 42, 43, 44] 45 hk rfl rfl (by decide +kernel) (by decide +kernel) (fun z u hq => ?_)
  obtain ⟨z9, p9, n9, k9, s6, s7, A2, W2, hz, hu, hs⟩ := hq
  subst hu
  exact ⟨rfl, CF a (uF (uF (uF (uF (uF v 28 s6) 29 s7) 30 p9) 31 n9) 32 k9) (uF (uF g 9 A2) 11 W2) R ds, rfl, rfl, CF_rest (by decide) rfl, ⟨z9, p9, n9, k9, s6, s7, A2, W2, hz, rfl, hs⟩⟩
def QX11_ring (a : Nat → Nat) (v : Nat → Int) (g : Nat → Int → Int) (R : Int → Int → Int) (ds : List LwS) (ys : Nat → LwY) (y1 : Int) (z : Int) (u : EW) : Prop := z = aRingC (v 13) (g 39) y1 ∧ u = CW a v g R ds ys
set_option maxRecDepth 100000 in
set_option maxHeartbeats 4000000 in
theorem qX11_ring (l : Launch) (a : Nat → Nat) (v : Nat → Int) (g : Nat → Int → Int) (R : Int → Int → Int) (ds : List LwS) (ys : Nat → LwY) (y1 : Int) (hz : okZ (v 13) (v 21) (v 22) (g 39) (g 40) (g 38) (g 41)) (hx_q : inR y1) : AMi l yX11_ring cX11_ring 5 .int 2 0 0 [rv (a 19), iv y1] (CW a v g R ds ys) (QX11_ring a v g R ds ys y1) := by
  have hk := (kX11_ring l (a 19) (o10 a v) (a 31) (o7w a v) (o5s a v) (v 13) (v 21) (v 22) (a 37) (a 39) (g 38) (g 39) (g 40) (g 41) y1 rfl rfl rfl rfl hz hx_q)
  refine AMi.gL (wl := CF a v g R ds) (is := [19, 31, 37, 39]) [0, 1, 2, 3, 4, 5, 6, 7, 8, 9, 10, 11, 12, 13, 14, 15, 16, 17, 18, 20, 21, 22, 23, 24, 25, 26, 27, 28, 29, 30, 32, 33, 34, 35, 36, 38, 40, 41, 42, 43, 44] 45 hk rfl rfl (by decide +kernel) (by decide +kernel) (fun z u hq => ?_)
  obtain ⟨hz, hu⟩ := hq
  subst hu
  exact ⟨rfl, CF a v g R ds, rfl, rfl, CF_rest (by decide) rfl, ⟨hz, rfl⟩⟩
def QX11_head (a : Nat → Nat) (v : Nat → Int) (g : Nat → Int → Int) (R : Int → Int → Int) (ds : List LwS) (ys : Nat → LwY) (y1 : Int) (z : Int) (u : EW) : Prop := z = aHeadC (v 13) (g 39) y1 ∧ u = CW a v g R ds ys
set_option maxRecDepth 100000 in
set_option maxHeartbeats 4000000 in
theorem qX11_head (l : Launch) (a : Nat → Nat) (v : Nat → Int) (g : Nat → Int → Int) (R : Int → Int → Int) (ds : List LwS) (ys : Nat → LwY) (y1 : Int) (hz : okZ (v 13) (v 21) (v 22) (g 39) (g 40) (g 38) (g 41)) (hx_q : inR y1) : AMi l yX11_head cX11_head 4 .int 2 0 0 [rv (a 19), iv y1] (CW a v g R ds ys) (QX11_head a v g R ds ys y1) := by
  have hk := (kX11_head l (a 19) (o10 a v) (a 31) (o7w a v) (o5s a v) (v 13) (v 21) (v 22) (a 37) (a 39) (g 38) (g 39) (g 40) (g 41) y1 rfl rfl rfl rfl hz hx_q)
  refine AMi.gL (wl := CF a v g R ds) (is := [19, 31, 37, 39]) [0, 1, 2, 3, 4, 5, 6, 7, 8, 9, 10, 11, 12, 13, 14, 15, 16, 17, 18, 20, 21, 22, 23, 24, 25, 26, 27, 28, 29, 30, 32, 33, 34, 35, 36, 38, 40, 41, 42, 43, 44] 45 hk rfl rfl (by decide +kernel) (by decide +kernel) (fun z u hq => ?_)
  obtain ⟨hz, hu⟩ := hq
  subst hu
  exact ⟨rfl, CF a v g R ds, rfl, rfl, CF_rest (by decide) rfl, ⟨hz, rfl⟩⟩
def QX11_week (a : Nat → Nat) (v : Nat → Int) (g : Nat → Int → Int) (R : Int → Int → Int) (ds : List LwS) (ys : Nat → LwY) (y1 : Int) (z : Int) (u : EW) : Prop := ∃ z9 : Int, ∃ r2 : Int, ∃ l2 : Int, ∃ p9 : Int, ∃ n9 : Int, ∃ k9 : Int, ∃ A2 : Int → Int, ∃ T2 : Int → Int, ∃ W2 : Int → Int, ∃ S2 : Int → Int, ∃ B4 : Int → Int, ∃ B3 : Int → Int, ∃ F3 : Int → Int, ∃ H3 : Int → Int, ∃ L3 : Int → Int, ∃ Kw2 : Int → Int, ∃ t4 : Int, ∃ t5 : Int, ∃ t6 : Int, ∃ t7 : Int, ∃ k2 : Int, ∃ y2 : Nat → LwY, z = z9 ∧ u = CW a (uF (uF (uF (uF (uF (uF (uF (uF (uF (uF v 24 t4) 25 t5) 26 t6) 27 t7) 30 p9) 31 n9) 32 k9) 35 k2) 36 r2) 37 l2) (uF (uF (uF (uF (uF (uF (uF (uF (uF (uF g 4 B3) 5 F3) 6 H3) 7 L3) 9 A2) 10 T2) 11 W2) 12 S2) 17 Kw2) 18 B4) R ds y2 ∧ okW ds y2 (v 14) (v 13) ∧ (∀ x, 0 ≤ x → x < 6 → 0 ≤ Kw2 x ∧ Kw2 x ≤ 9) ∧ (k2 = 0 ∨ k2 = 1) ∧ (0 ≤ r2 ∧ r2 ≤ 1000000000 ∧ 0 ≤ l2 ∧ l2 ≤ 1000000000)
set_option maxRecDepth 100000 in
set_option maxHeartbeats 4000000 in
theorem qX11_week (l : Launch) (a : Nat → Nat) (v : Nat → Int) (g : Nat → Int → Int) (R : Int → Int → Int) (ds : List LwS) (ys : Nat → LwY) (y1 : Int) (hz : okZ (v 13) (v 21) (v 22) (g 39) (g 40) (g 38) (g 41)) (hx_v : inR y1) (hod0 : 1 ≤ (v 13) → okDy (v 13) (v 14) (g 34) (g 33)) (hds : (ds.length : Int) = (v 1) ∧ 0 ≤ (v 1) ∧ (v 1) ≤ 4) (hdy : okW ds ys (v 14) (v 13)) (hho : -1 ≤ (v 2) ∧ (v 2) < (v 1)) (htd : 0 ≤ (v 15) ∧ (v 15) ≤ 1000) (hkw : ∀ x, 0 ≤ x → x < 6 → 0 ≤ (g 17) x ∧ (g 17) x ≤ 9) (hkk : (v 35) = 0 ∨ (v 35) = 1) (hrl : 0 ≤ (v 36) ∧ (v 36) ≤ 1000000000 ∧ 0 ≤ (v 37) ∧ (v 37) ≤ 1000000000) : AMi l yX11_week cX11_week 3 .int 13 0 0 [rv (a 19), iv y1] (CW a v g R ds ys) (QX11_week a v g R ds ys y1) := by
  have hk := (kX11_week l (a 19) (o10 a v) (a 31) (o7w a v) (o4 a v) (o5s a v) (v 13) (v 21) (v 22) (v 23) (a 8) (a 37) (a 9) (a 10) (a 11) (a 12) (a 38) (a 39) (a 40) (a 41) (g 9) (g 10) (g 11) (g 12) (g 38) (g 39) (g 40) (g 41) (v 30) (v 31) (v 32) y1 (a 43) (o9 a v) (v 35) (v 36) (v 37) (a 17) (a 18) (g 17) (g 18) (a 33) (a 34) (g 33) (g 34) (a 3) (a 4) (a 5) (a 6) (a 7) (o5t a v) (g 4) (g 5) (g 6) (g 7) (v 24) (v 25) (v 26) (v 27) (a 42) (o0 a v) (v 15) ds ys (v 14) (v 1) (a 44) (v 2) rfl rfl rfl rfl rfl rfl rfl rfl rfl rfl rfl rfl rfl rfl rfl rfl rfl rfl rfl rfl rfl rfl rfl rfl rfl rfl rfl rfl rfl rfl rfl rfl rfl hz hx_v hod0 hds hdy hho htd hkw hkk hrl)
  simp only [Po4_6, Po4_7, Po4_8, Po5t_0, Po5t_1, Po5t_2, Po5t_3, Po9_0, Po9_1, Po9_2, uF_self] at hk
  refine AMi.gT (wl := CF a v g R ds) (is := [19, 31, 43, 17, 18, 33, 34, 8, 9, 10, 11, 12, 37, 38, 39, 40, 41, 3, 4, 5, 6, 7, 42, 44]) [0, 1, 2, 13, 14, 15, 16, 20, 21, 22, 23, 24, 25, 26, 27, 28, 29, 30, 32, 35, 36] 45 hk rfl rfl (by decide +kernel) (by decide +kernel) (fun z u hq => ?_)
  obtain ⟨z9, r2, l2, p9, n9, k9, A2, T2, W2, S2, B4, B3, F3, H3, L3, Kw2, t4, t5, t6, t7, k2, y2, hz, hu, hy2, h1, h2, h3⟩ := hq
  subst hu
  exact ⟨_, _, rfl, rfl, lwT_key _ _ _, CF a (uF (uF (uF (uF (uF (uF (uF (uF (uF (uF v 24 t4) 25 t5) 26 t6) 27 t7) 30 p9) 31 n9) 32 k9) 35 k2) 36 r2) 37 l2) (uF (uF (uF (uF (uF (uF (uF (uF (uF (uF g 4 B3) 5 F3) 6 H3) 7 L3) 9 A2) 10 T2) 11 W2) 12 S2) 17 Kw2) 18 B4) R ds, rfl, rfl, CF_rest (by decide) rfl, ⟨z9, r2, l2, p9, n9, k9, A2, T2, W2, S2, B4, B3, F3, H3, L3, Kw2, t4, t5, t6, t7, k2, y2, hz, rfl, hy2, h1, h2, h3⟩⟩
def QX11_leader (a : Nat → Nat) (v : Nat → Int) (g : Nat → Int → Int) (R : Int → Int → Int) (ds : List LwS) (ys : Nat → LwY) (y1 y2 : Int) (z : Int) (u : EW) : Prop := ∃ p9 : Int, ∃ n9 : Int, ∃ k9 : Int, ∃ A2 : Int → Int, ∃ T2 : Int → Int, ∃ W2 : Int → Int, ∃ S2 : Int → Int, ∃ t4 : Int, ∃ t5 : Int, ∃ t6 : Int, ∃ t7 : Int, ∃ B3 : Int → Int, ∃ F3 : Int → Int, ∃ H3 : Int → Int, ∃ L3 : Int → Int, z = aLeader (v 13) (v 21) (v 22) (v 23) (g 39) (g 40) (g 38) (g 41) y1 y2 ∧ u = CW a (uF (uF (uF (uF (uF (uF (uF v 24 t4) 25 t5) 26 t6) 27 t7) 30 p9) 31 n9) 32 k9) (uF (uF (uF (uF (uF (uF (uF (uF g 4 B3) 5 F3) 6 H3) 7 L3) 9 A2) 10 T2) 11 W2) 12 S2) R ds ys
set_option maxRecDepth 100000 in
set_option maxHeartbeats 4000000 in
theorem qX11_leader (l : Launch) (a : Nat → Nat) (v : Nat → Int) (g : Nat → Int → Int) (R : Int → Int → Int) (ds : List LwS) (ys : Nat → LwY) (y1 y2 : Int) (hz : okZ (v 13) (v 21) (v 22) (g 39) (g 40) (g 38) (g 41)) (hx_q : inR y1) (hx_v : inR y2) : AMi l yX11_leader cX11_leader 7 .int 4 0 0 [rv (a 19), iv y1, iv y2] (CW a v g R ds ys) (QX11_leader a v g R ds ys y1 y2) := by
  have hk := (kX11_leader l (a 19) (o10 a v) (a 31) (o7w a v) (o4 a v) (o5s a v) (v 13) (v 21) (v 22) (v 23) (a 8) (a 37) (a 9) (a 10) (a 11) (a 12) (a 38) (a 39) (a 40) (a 41) (g 9) (g 10) (g 11) (g 12) (g 38) (g 39) (g 40) (g 41) (v 30) (v 31) (v 32) y1 y2 (a 3) (a 4) (a 5) (a 6) (a 7) (o5t a v) (g 4) (g 5) (g 6) (g 7) (v 24) (v 25) (v 26) (v 27) rfl rfl rfl rfl rfl rfl rfl rfl rfl rfl rfl rfl rfl rfl rfl rfl rfl rfl rfl rfl rfl hz hx_q hx_v)
  simp only [Po4_6, Po4_7, Po4_8, Po5t_0, Po5t_1, Po5t_2, Po5t_3, uF_self] at hk
  refine AMi.gL (wl := CF a v g R ds) (is := [19, 31, 8, 9, 10, 11, 12, 37, 38, 39, 40, 41, 3, 4, 5, 6, 7]) [0, 1, 2, 13, 14, 15, 16, 17, 18, 20, 21, 22, 23, 24, 25, 26, 27, 28, 29, 30, 32, 33, 34, 35, 36, 42, 43, 44] 45 hk rfl rfl (by decide +kernel) (by decide +kernel) (fun z u hq => ?_)
  obtain ⟨p9, n9, k9, A2, T2, W2, S2, t4, t5, t6, t7, B3, F3, H3, L3, hz, hu⟩ := hq
  subst hu
  exact ⟨rfl, CF a (uF (uF (uF (uF (uF (uF (uF v 24 t4) 25 t5) 26 t6) 27 t7) 30 p9) 31 n9) 32 k9) (uF (uF (uF (uF (uF (uF (uF (uF g 4 B3) 5 F3) 6 H3) 7 L3) 9 A2) 10 T2) 11 W2) 12 S2) R ds, rfl, rfl, CF_rest (by decide) rfl, ⟨p9, n9, k9, A2, T2, W2, S2, t4, t5, t6, t7, B3, F3, H3, L3, hz, rfl⟩⟩
def QX11_marks (a : Nat → Nat) (v : Nat → Int) (g : Nat → Int → Int) (R : Int → Int → Int) (ds : List LwS) (ys : Nat → LwY) (y1 : Int) (z : Int) (u : EW) : Prop := ∃ z9 : Int, ∃ p9 : Int, ∃ n9 : Int, ∃ k9 : Int, ∃ A2 : Int → Int, ∃ T2 : Int → Int, ∃ W2 : Int → Int, ∃ S2 : Int → Int, ∃ f2 : Int, ∃ b2 : Int, ∃ Cn2 : Int → Int, ∃ Mm2 : Int → Int, ∃ Sm2 : Int → Int, z = z9 ∧ u = CW a (uF (uF (uF (uF (uF v 30 p9) 31 n9) 32 k9) 33 f2) 34 b2) (uF (uF (uF (uF (uF (uF (uF g 9 A2) 10 T2) 11 W2) 12 S2) 14 Cn2) 15 Mm2) 16 Sm2) R ds ys ∧ (0 ≤ f2 ∧ f2 ≤ 1000000000) ∧ inR b2 ∧ (∀ x, 0 ≤ x → x < 31 → 0 ≤ Cn2 x ∧ Cn2 x ≤ 1000000000) ∧ (∀ x, 0 ≤ x → x < 31 → inR (Mm2 x))
set_option maxRecDepth 100000 in
set_option maxHeartbeats 4000000 in
theorem qX11_marks (l : Launch) (a : Nat → Nat) (v : Nat → Int) (g : Nat → Int → Int) (R : Int → Int → Int) (ds : List LwS) (ys : Nat → LwY) (y1 : Int) (hz : okZ (v 13) (v 21) (v 22) (g 39) (g 40) (g 38) (g 41)) (hx_v : inR y1) (hlim : 0 ≤ (v 0) ∧ (v 0) ≤ 999) (hfe : 0 ≤ (v 33) ∧ (v 33) ≤ 1000000000) (hbt : inR (v 34)) (hCr : ∀ x, 0 ≤ x → x < 31 → 0 ≤ (g 14) x ∧ (g 14) x ≤ 1000000000) (hMr : ∀ x, 0 ≤ x → x < 31 → inR ((g 15) x)) : AMi l yX11_marks cX11_marks 2 .int 4 0 0 [rv (a 19), iv y1] (CW a v g R ds ys) (QX11_marks a v g R ds ys y1) := by
  have hk := (kX11_marks l (a 19) (o10 a v) (a 31) (o7w a v) (o4 a v) (o5s a v) (v 13) (v 21) (v 22) (v 23) (a 8) (a 37) (a 9) (a 10) (a 11) (a 12) (a 38) (a 39) (a 40) (a 41) (g 9) (g 10) (g 11) (g 12) (g 38) (g 39) (g 40) (g 41) (v 30) (v 31) (v 32) y1 (a 13) (o3 a v) (a 14) (a 15) (a 16) (g 14) (g 15) (g 16) (v 33) (v 34) (v 0) rfl rfl rfl rfl rfl rfl rfl rfl rfl rfl rfl rfl rfl rfl rfl rfl rfl rfl rfl rfl rfl hz hx_v hlim hfe hbt hCr hMr)
  simp only [Po3_0, Po3_1, Po4_6, Po4_7, Po4_8, uF_self] at hk
  refine AMi.gL (wl := CF a v g R ds) (is := [19, 31, 8, 9, 10, 11, 12, 37, 38, 39, 40, 41, 13, 14, 15, 16]) [0, 1, 2, 3, 4, 5, 6, 7, 17, 18, 20, 21, 22, 23, 24, 25, 26, 27, 28, 29, 30, 32, 33, 34, 35, 36, 42, 43, 44] 45 hk rfl rfl (by decide +kernel) (by decide +kernel) (fun z u hq => ?_)
  obtain ⟨z9, p9, n9, k9, A2, T2, W2, S2, f2, b2, Cn2, Mm2, Sm2, hz, hu, h1, h2, h3, h4⟩ := hq
  subst hu
  exact ⟨rfl, CF a (uF (uF (uF (uF (uF v 30 p9) 31 n9) 32 k9) 33 f2) 34 b2) (uF (uF (uF (uF (uF (uF (uF g 9 A2) 10 T2) 11 W2) 12 S2) 14 Cn2) 15 Mm2) 16 Sm2) R ds, rfl, rfl, CF_rest (by decide) rfl, ⟨z9, p9, n9, k9, A2, T2, W2, S2, f2, b2, Cn2, Mm2, Sm2, hz, rfl, h1, h2, h3, h4⟩⟩
def QX11_odds (a : Nat → Nat) (v : Nat → Int) (g : Nat → Int → Int) (R : Int → Int → Int) (ds : List LwS) (ys : Nat → LwY) (y1 y2 : Int) (z : Int) (u : EW) : Prop := ∃ z9 : Int, ∃ p9 : Int, ∃ n9 : Int, ∃ k9 : Int, ∃ A2 : Int → Int, ∃ T2 : Int → Int, ∃ W2 : Int → Int, ∃ S2 : Int → Int, ∃ t4 : Int, ∃ t5 : Int, ∃ t6 : Int, ∃ t7 : Int, ∃ B3 : Int → Int, ∃ F3 : Int → Int, ∃ H3 : Int → Int, ∃ L3 : Int → Int, z = z9 ∧ u = CW a (uF (uF (uF (uF (uF (uF (uF v 24 t4) 25 t5) 26 t6) 27 t7) 30 p9) 31 n9) 32 k9) (uF (uF (uF (uF (uF (uF (uF (uF g 4 B3) 5 F3) 6 H3) 7 L3) 9 A2) 10 T2) 11 W2) 12 S2) R ds ys
set_option maxRecDepth 100000 in
set_option maxHeartbeats 4000000 in
theorem qX11_odds (l : Launch) (a : Nat → Nat) (v : Nat → Int) (g : Nat → Int → Int) (R : Int → Int → Int) (ds : List LwS) (ys : Nat → LwY) (y1 y2 : Int) (hz : okZ (v 13) (v 21) (v 22) (g 39) (g 40) (g 38) (g 41)) (hx_q : inR y1) (hx_k9 : inR y2) (hod0 : 1 ≤ (v 13) → okDy (v 13) (v 14) (g 34) (g 33)) : AMi l yX11_odds cX11_odds 6 .int 8 0 0 [rv (a 19), iv y1, iv y2] (CW a v g R ds ys) (QX11_odds a v g R ds ys y1 y2) := by
  have hk := (kX11_odds l (a 19) (o10 a v) (a 31) (o7w a v) (o4 a v) (o5s a v) (v 13) (v 21) (v 22) (v 23) (a 8) (a 37) (a 9) (a 10) (a 11) (a 12) (a 38) (a 39) (a 40) (a 41) (g 9) (g 10) (g 11) (g 12) (g 38) (g 39) (g 40) (g 41) (v 30) (v 31) (v 32) y1 y2 (a 3) (a 4) (a 5) (a 6) (a 7) (o5t a v) (g 4) (g 5) (g 6) (g 7) (v 24) (v 25) (v 26) (v 27) (a 33) (a 34) (g 33) (g 34) (v 14) rfl rfl rfl rfl rfl rfl rfl rfl rfl rfl rfl rfl rfl rfl rfl rfl rfl rfl rfl rfl rfl rfl rfl hz hx_q hx_k9 hod0)
  simp only [Po4_6, Po4_7, Po4_8, Po5t_0, Po5t_1, Po5t_2, Po5t_3, uF_self] at hk
  refine AMi.gL (wl := CF a v g R ds) (is := [19, 31, 8, 9, 10, 11, 12, 37, 38, 39, 40, 41, 3, 4, 5, 6, 7, 33, 34]) [0, 1, 2, 13, 14, 15, 16, 17, 18, 20, 21, 22, 23, 24, 25, 26, 27, 28, 29, 30, 32, 35, 36, 42, 43, 44] 45 hk rfl rfl (by decide +kernel) (by decide +kernel) (fun z u hq => ?_)
  obtain ⟨z9, p9, n9, k9, A2, T2, W2, S2, t4, t5, t6, t7, B3, F3, H3, L3, hz, hu⟩ := hq
  subst hu
  exact ⟨rfl, CF a (uF (uF (uF (uF (uF (uF (uF v 24 t4) 25 t5) 26 t6) 27 t7) 30 p9) 31 n9) 32 k9) (uF (uF (uF (uF (uF (uF (uF (uF g 4 B3) 5 F3) 6 H3) 7 L3) 9 A2) 10 T2) 11 W2) 12 S2) R ds, rfl, rfl, CF_rest (by decide) rfl, ⟨z9, p9, n9, k9, A2, T2, W2, S2, t4, t5, t6, t7, B3, F3, H3, L3, hz, rfl⟩⟩
def QX11_paid (a : Nat → Nat) (v : Nat → Int) (g : Nat → Int → Int) (R : Int → Int → Int) (ds : List LwS) (ys : Nat → LwY) (y1 : Int) (z : Int) (u : EW) : Prop := ∃ z9 : Int, ∃ p9 : Int, ∃ n9 : Int, ∃ k9 : Int, ∃ A2 : Int → Int, ∃ T2 : Int → Int, ∃ W2 : Int → Int, ∃ S2 : Int → Int, ∃ t4 : Int, ∃ t5 : Int, ∃ t6 : Int, ∃ t7 : Int, ∃ B3 : Int → Int, ∃ F3 : Int → Int, ∃ H3 : Int → Int, ∃ L3 : Int → Int, z = z9 ∧ u = CW a (uF (uF (uF (uF (uF (uF (uF v 24 t4) 25 t5) 26 t6) 27 t7) 30 p9) 31 n9) 32 k9) (uF (uF (uF (uF (uF (uF (uF (uF g 4 B3) 5 F3) 6 H3) 7 L3) 9 A2) 10 T2) 11 W2) 12 S2) R ds ys ∧ rPaid (v 13) (v 21) (v 22) (v 23) (g 39) (g 40) (g 38) (g 41) y1 z9
set_option maxRecDepth 100000 in
set_option maxHeartbeats 4000000 in
theorem qX11_paid (l : Launch) (a : Nat → Nat) (v : Nat → Int) (g : Nat → Int → Int) (R : Int → Int → Int) (ds : List LwS) (ys : Nat → LwY) (y1 : Int) (hz : okZ (v 13) (v 21) (v 22) (g 39) (g 40) (g 38) (g 41)) (hx_q : inR y1) : AMi l yX11_paid cX11_paid 4 .int 4 0 0 [rv (a 19), iv y1] (CW a v g R ds ys) (QX11_paid a v g R ds ys y1) := by
  have hk := (kX11_paid l (a 19) (o10 a v) (a 31) (o7w a v) (o4 a v) (o5s a v) (v 13) (v 21) (v 22) (v 23) (a 8) (a 37) (a 9) (a 10) (a 11) (a 12) (a 38) (a 39) (a 40) (a 41) (g 9) (g 10) (g 11) (g 12) (g 38) (g 39) (g 40) (g 41) (v 30) (v 31) (v 32) y1 (a 3) (a 4) (a 5) (a 6) (a 7) (o5t a v) (g 4) (g 5) (g 6) (g 7) (v 24) (v 25) (v 26) (v 27) rfl rfl rfl rfl rfl rfl rfl rfl rfl rfl rfl rfl rfl rfl rfl rfl rfl rfl rfl rfl rfl hz hx_q)
  simp only [Po4_6, Po4_7, Po4_8, Po5t_0, Po5t_1, Po5t_2, Po5t_3, uF_self] at hk
  refine AMi.gL (wl := CF a v g R ds) (is := [19, 31, 8, 9, 10, 11, 12, 37, 38, 39, 40, 41, 3, 4, 5, 6, 7]) [0, 1, 2, 13, 14, 15, 16, 17, 18, 20, 21, 22, 23, 24, 25, 26, 27, 28, 29, 30, 32, 33, 34, 35, 36, 42, 43, 44] 45 hk rfl rfl (by decide +kernel) (by decide +kernel) (fun z u hq => ?_)
  obtain ⟨z9, p9, n9, k9, A2, T2, W2, S2, t4, t5, t6, t7, B3, F3, H3, L3, hz, hu, hs⟩ := hq
  subst hu
  exact ⟨rfl, CF a (uF (uF (uF (uF (uF (uF (uF v 24 t4) 25 t5) 26 t6) 27 t7) 30 p9) 31 n9) 32 k9) (uF (uF (uF (uF (uF (uF (uF (uF g 4 B3) 5 F3) 6 H3) 7 L3) 9 A2) 10 T2) 11 W2) 12 S2) R ds, rfl, rfl, CF_rest (by decide) rfl, ⟨z9, p9, n9, k9, A2, T2, W2, S2, t4, t5, t6, t7, B3, F3, H3, L3, hz, rfl, hs⟩⟩
def QX11_roll (a : Nat → Nat) (v : Nat → Int) (g : Nat → Int → Int) (R : Int → Int → Int) (ds : List LwS) (ys : Nat → LwY) (y1 y2 y3 : Int) (z : Int) (u : EW) : Prop := (z = -1 ∧ u = CW a v g R ds ys ∧ (¬ ((0 ≤ y1 ∧ y1 < (v 13)) ∧ (0 ≤ y2 ∧ y2 ≤ 29) ∧ (0 ≤ y3 ∧ y3 ≤ 9999) ∧ (v 3) < 20))) ∨ (z = (v 3) + 1 ∧ u = CW a (uF v 3 ((v 3) + 1)) (uF g 2 (uZ (uZ (uZ (g 2) ((v 3) * 3) y1) ((v 3) * 3 + 1) y2) ((v 3) * 3 + 2) y3)) R ds ys ∧ ((0 ≤ y1 ∧ y1 < (v 13)) ∧ (0 ≤ y2 ∧ y2 ≤ 29) ∧ (0 ≤ y3 ∧ y3 ≤ 9999) ∧ (v 3) < 20))
set_option maxRecDepth 100000 in
set_option maxHeartbeats 4000000 in
theorem qX11_roll (l : Launch) (a : Nat → Nat) (v : Nat → Int) (g : Nat → Int → Int) (R : Int → Int → Int) (ds : List LwS) (ys : Nat → LwY) (y1 y2 y3 : Int) (hpl : 0 ≤ (v 13) ∧ (v 13) ≤ 6) (hrl : 0 ≤ (v 3) ∧ (v 3) ≤ 20) (hx_q : inR y1) (hx_b : inR y2) (hx_t : inR y3) : AMi l yX11_roll cX11_roll 6 .int 1 0 0 [rv (a 19), iv y1, iv y2, iv y3] (CW a v g R ds ys) (QX11_roll a v g R ds ys y1 y2 y3) := by
  have hk := (kX11_roll l (a 19) (o10 a v) (a 31) (o7w a v) (v 13) (a 2) (g 2) (v 3) y1 y2 y3 rfl rfl rfl hpl hrl hx_q hx_b hx_t)
  simp only [Po10_15, uF_self] at hk
  refine AMi.gL (wl := CF a v g R ds) (is := [19, 31, 2]) [0, 1, 3, 4, 5, 6, 7, 8, 9, 10, 11, 12, 13, 14, 15, 16, 17, 18, 20, 21, 22, 23, 24, 25, 26, 27, 28, 29, 30, 32, 33, 34, 35, 36, 37, 38, 39, 40, 41, 42, 43, 44] 45 hk rfl rfl (by decide +kernel) (by decide +kernel) (fun z u hq => ?_)
  rcases hq with ⟨hz, hu, hq⟩ | ⟨hz, hu, hq⟩
  · subst hu
    exact ⟨rfl, CF a v g R ds, rfl, rfl, CF_rest (by decide) rfl, Or.inl ⟨hz, rfl, hq⟩⟩
  · subst hu
    exact ⟨rfl, CF a (uF v 3 ((v 3) + 1)) (uF g 2 (uZ (uZ (uZ (g 2) ((v 3) * 3) y1) ((v 3) * 3 + 1) y2) ((v 3) * 3 + 2) y3)) R ds, rfl, rfl, CF_rest (by decide) rfl, Or.inr (⟨hz, rfl, hq⟩)⟩
def QX11_fits (a : Nat → Nat) (v : Nat → Int) (g : Nat → Int → Int) (R : Int → Int → Int) (ds : List LwS) (ys : Nat → LwY) (y1 : Int) (z : Int) (u : EW) : Prop := ∃ p9 : Int, ∃ n9 : Int, ∃ k9 : Int, ∃ A2 : Int → Int, ∃ T2 : Int → Int, ∃ W2 : Int → Int, ∃ S2 : Int → Int, ∃ t4 : Int, ∃ t5 : Int, ∃ t6 : Int, ∃ t7 : Int, ∃ B3 : Int → Int, ∃ F3 : Int → Int, ∃ H3 : Int → Int, ∃ L3 : Int → Int, z = aFits (v 13) (v 21) (v 22) (v 23) (g 39) (g 40) (g 38) (g 41) (v 3) (t3a (g 2)) (t3b (g 2)) (t3c (g 2)) y1 ∧ u = CW a (uF (uF (uF (uF (uF (uF (uF v 24 t4) 25 t5) 26 t6) 27 t7) 30 p9) 31 n9) 32 k9) (uF (uF (uF (uF (uF (uF (uF (uF g 4 B3) 5 F3) 6 H3) 7 L3) 9 A2) 10 T2) 11 W2) 12 S2) R ds ys
set_option maxRecDepth 100000 in
set_option maxHeartbeats 4000000 in
theorem qX11_fits (l : Launch) (a : Nat → Nat) (v : Nat → Int) (g : Nat → Int → Int) (R : Int → Int → Int) (ds : List LwS) (ys : Nat → LwY) (y1 : Int) (hz : okZ (v 13) (v 21) (v 22) (g 39) (g 40) (g 38) (g 41)) (hx_q : inR y1) (hto : 0 ≤ (v 3) ∧ (v 3) ≤ 20 ∧ ∀ k, 0 ≤ k → k < (v 3) → (0 ≤ t3a (g 2) k ∧ t3a (g 2) k < (v 13)) ∧ (0 ≤ t3b (g 2) k ∧ t3b (g 2) k ≤ 29) ∧ (0 ≤ t3c (g 2) k ∧ t3c (g 2) k ≤ 9999)) : AMi l yX11_fits cX11_fits 4 .int 5 0 0 [rv (a 19), iv y1] (CW a v g R ds ys) (QX11_fits a v g R ds ys y1) := by
  have hk := (kX11_fits l (a 19) (o10 a v) (a 31) (o7w a v) (o4 a v) (o5s a v) (v 13) (v 21) (v 22) (v 23) (a 8) (a 37) (a 9) (a 10) (a 11) (a 12) (a 38) (a 39) (a 40) (a 41) (g 9) (g 10) (g 11) (g 12) (g 38) (g 39) (g 40) (g 41) (v 30) (v 31) (v 32) y1 (a 3) (a 4) (a 5) (a 6) (a 7) (o5t a v) (g 4) (g 5) (g 6) (g 7) (v 24) (v 25) (v 26) (v 27) (a 2) (g 2) (v 3) rfl rfl rfl rfl rfl rfl rfl rfl rfl rfl rfl rfl rfl rfl rfl rfl rfl rfl rfl rfl rfl rfl rfl hz hx_q hto)
  simp only [Po4_6, Po4_7, Po4_8, Po5t_0, Po5t_1, Po5t_2, Po5t_3, uF_self] at hk
  refine AMi.gL (wl := CF a v g R ds) (is := [19, 31, 8, 9, 10, 11, 12, 37, 38, 39, 40, 41, 3, 4, 5, 6, 7, 2]) [0, 1, 13, 14, 15, 16, 17, 18, 20, 21, 22, 23, 24, 25, 26, 27, 28, 29, 30, 32, 33, 34, 35, 36, 42, 43, 44] 45 hk rfl rfl (by decide +kernel) (by decide +kernel) (fun z u hq => ?_)
  obtain ⟨p9, n9, k9, A2, T2, W2, S2, t4, t5, t6, t7, B3, F3, H3, L3, hz, hu⟩ := hq
  subst hu
  exact ⟨rfl, CF a (uF (uF (uF (uF (uF (uF (uF v 24 t4) 25 t5) 26 t6) 27 t7) 30 p9) 31 n9) 32 k9) (uF (uF (uF (uF (uF (uF (uF (uF g 4 B3) 5 F3) 6 H3) 7 L3) 9 A2) 10 T2) 11 W2) 12 S2) R ds, rfl, rfl, CF_rest (by decide) rfl, ⟨p9, n9, k9, A2, T2, W2, S2, t4, t5, t6, t7, B3, F3, H3, L3, hz, rfl⟩⟩
def QX11_deaf (a : Nat → Nat) (v : Nat → Int) (g : Nat → Int → Int) (R : Int → Int → Int) (ds : List LwS) (ys : Nat → LwY) (y1 : Int) (z : Int) (u : EW) : Prop := ∃ p9 : Int, ∃ n9 : Int, ∃ k9 : Int, ∃ A2 : Int → Int, ∃ T2 : Int → Int, ∃ W2 : Int → Int, ∃ S2 : Int → Int, ∃ t4 : Int, ∃ t5 : Int, ∃ t6 : Int, ∃ t7 : Int, ∃ B3 : Int → Int, ∃ F3 : Int → Int, ∃ H3 : Int → Int, ∃ L3 : Int → Int, z = aDeaf (v 13) (v 21) (v 22) (v 23) (g 39) (g 40) (g 38) (g 41) y1 ∧ u = CW a (uF (uF (uF (uF (uF (uF (uF v 24 t4) 25 t5) 26 t6) 27 t7) 30 p9) 31 n9) 32 k9) (uF (uF (uF (uF (uF (uF (uF (uF g 4 B3) 5 F3) 6 H3) 7 L3) 9 A2) 10 T2) 11 W2) 12 S2) R ds ys
set_option maxRecDepth 100000 in
set_option maxHeartbeats 4000000 in
theorem qX11_deaf (l : Launch) (a : Nat → Nat) (v : Nat → Int) (g : Nat → Int → Int) (R : Int → Int → Int) (ds : List LwS) (ys : Nat → LwY) (y1 : Int) (hz : okZ (v 13) (v 21) (v 22) (g 39) (g 40) (g 38) (g 41)) (hx_q : inR y1) : AMi l yX11_deaf cX11_deaf 2 .int 4 0 0 [rv (a 19), iv y1] (CW a v g R ds ys) (QX11_deaf a v g R ds ys y1) := by
  have hk := (kX11_deaf l (a 19) (o10 a v) (a 31) (o7w a v) (o4 a v) (o5s a v) (v 13) (v 21) (v 22) (v 23) (a 8) (a 37) (a 9) (a 10) (a 11) (a 12) (a 38) (a 39) (a 40) (a 41) (g 9) (g 10) (g 11) (g 12) (g 38) (g 39) (g 40) (g 41) (v 30) (v 31) (v 32) y1 (a 3) (a 4) (a 5) (a 6) (a 7) (o5t a v) (g 4) (g 5) (g 6) (g 7) (v 24) (v 25) (v 26) (v 27) rfl rfl rfl rfl rfl rfl rfl rfl rfl rfl rfl rfl rfl rfl rfl rfl rfl rfl rfl rfl rfl hz hx_q)
  simp only [Po4_6, Po4_7, Po4_8, Po5t_0, Po5t_1, Po5t_2, Po5t_3, uF_self] at hk
  refine AMi.gL (wl := CF a v g R ds) (is := [19, 31, 8, 9, 10, 11, 12, 37, 38, 39, 40, 41, 3, 4, 5, 6, 7]) [0, 1, 2, 13, 14, 15, 16, 17, 18, 20, 21, 22, 23, 24, 25, 26, 27, 28, 29, 30, 32, 33, 34, 35, 36, 42, 43, 44] 45 hk rfl rfl (by decide +kernel) (by decide +kernel) (fun z u hq => ?_)
  obtain ⟨p9, n9, k9, A2, T2, W2, S2, t4, t5, t6, t7, B3, F3, H3, L3, hz, hu⟩ := hq
  subst hu
  exact ⟨rfl, CF a (uF (uF (uF (uF (uF (uF (uF v 24 t4) 25 t5) 26 t6) 27 t7) 30 p9) 31 n9) 32 k9) (uF (uF (uF (uF (uF (uF (uF (uF g 4 B3) 5 F3) 6 H3) 7 L3) 9 A2) 10 T2) 11 W2) 12 S2) R ds, rfl, rfl, CF_rest (by decide) rfl, ⟨p9, n9, k9, A2, T2, W2, S2, t4, t5, t6, t7, B3, F3, H3, L3, hz, rfl⟩⟩
def QX11_echoes (a : Nat → Nat) (v : Nat → Int) (g : Nat → Int → Int) (R : Int → Int → Int) (ds : List LwS) (ys : Nat → LwY) (y1 : Int) (z : Int) (u : EW) : Prop := ∃ p9 : Int, ∃ n9 : Int, ∃ k9 : Int, ∃ A2 : Int → Int, ∃ T2 : Int → Int, ∃ W2 : Int → Int, ∃ S2 : Int → Int, ∃ t4 : Int, ∃ t5 : Int, ∃ t6 : Int, ∃ t7 : Int, ∃ B3 : Int → Int, ∃ F3 : Int → Int, ∃ H3 : Int → Int, ∃ L3 : Int → Int, z = aEchoes (v 13) (v 21) (v 23) (g 39) (g 40) (g 38) (g 41) y1 ∧ u = CW a (uF (uF (uF (uF (uF (uF (uF v 24 t4) 25 t5) 26 t6) 27 t7) 30 p9) 31 n9) 32 k9) (uF (uF (uF (uF (uF (uF (uF (uF g 4 B3) 5 F3) 6 H3) 7 L3) 9 A2) 10 T2) 11 W2) 12 S2) R ds ys
set_option maxRecDepth 100000 in
set_option maxHeartbeats 4000000 in
theorem qX11_echoes (l : Launch) (a : Nat → Nat) (v : Nat → Int) (g : Nat → Int → Int) (R : Int → Int → Int) (ds : List LwS) (ys : Nat → LwY) (y1 : Int) (hz : okZ (v 13) (v 21) (v 22) (g 39) (g 40) (g 38) (g 41)) (hx_v : inR y1) : AMi l yX11_echoes cX11_echoes 6 .int 4 0 0 [rv (a 19), iv y1] (CW a v g R ds ys) (QX11_echoes a v g R ds ys y1) := by
  have hk := (kX11_echoes l (a 19) (o10 a v) (a 31) (o7w a v) (o4 a v) (o5s a v) (v 13) (v 21) (v 22) (v 23) (a 8) (a 37) (a 9) (a 10) (a 11) (a 12) (a 38) (a 39) (a 40) (a 41) (g 9) (g 10) (g 11) (g 12) (g 38) (g 39) (g 40) (g 41) (v 30) (v 31) (v 32) y1 (a 3) (a 4) (a 5) (a 6) (a 7) (o5t a v) (g 4) (g 5) (g 6) (g 7) (v 24) (v 25) (v 26) (v 27) rfl rfl rfl rfl rfl rfl rfl rfl rfl rfl rfl rfl rfl rfl rfl rfl rfl rfl rfl rfl rfl hz hx_v)
  simp only [Po4_6, Po4_7, Po4_8, Po5t_0, Po5t_1, Po5t_2, Po5t_3, uF_self] at hk
  refine AMi.gL (wl := CF a v g R ds) (is := [19, 31, 8, 9, 10, 11, 12, 37, 38, 39, 40, 41, 3, 4, 5, 6, 7]) [0, 1, 2, 13, 14, 15, 16, 17, 18, 20, 21, 22, 23, 24, 25, 26, 27, 28, 29, 30, 32, 33, 34, 35, 36, 42, 43, 44] 45 hk rfl rfl (by decide +kernel) (by decide +kernel) (fun z u hq => ?_)
  obtain ⟨p9, n9, k9, A2, T2, W2, S2, t4, t5, t6, t7, B3, F3, H3, L3, hz, hu⟩ := hq
  subst hu
  exact ⟨rfl, CF a (uF (uF (uF (uF (uF (uF (uF v 24 t4) 25 t5) 26 t6) 27 t7) 30 p9) 31 n9) 32 k9) (uF (uF (uF (uF (uF (uF (uF (uF g 4 B3) 5 F3) 6 H3) 7 L3) 9 A2) 10 T2) 11 W2) 12 S2) R ds, rfl, rfl, CF_rest (by decide) rfl, ⟨p9, n9, k9, A2, T2, W2, S2, t4, t5, t6, t7, B3, F3, H3, L3, hz, rfl⟩⟩
def QX11_gift (a : Nat → Nat) (v : Nat → Int) (g : Nat → Int → Int) (R : Int → Int → Int) (ds : List LwS) (ys : Nat → LwY) (y1 : Int) (z : Int) (u : EW) : Prop := ∃ z9 : Int, ∃ p9 : Int, ∃ n9 : Int, ∃ k9 : Int, ∃ A2 : Int → Int, ∃ T2 : Int → Int, ∃ W2 : Int → Int, ∃ S2 : Int → Int, ∃ t4 : Int, ∃ t5 : Int, ∃ t6 : Int, ∃ t7 : Int, ∃ B3 : Int → Int, ∃ F3 : Int → Int, ∃ H3 : Int → Int, ∃ L3 : Int → Int, ∃ y2 : Nat → LwY, z = z9 ∧ u = CW a (uF (uF (uF (uF (uF (uF (uF v 24 t4) 25 t5) 26 t6) 27 t7) 30 p9) 31 n9) 32 k9) (uF (uF (uF (uF (uF (uF (uF (uF g 4 B3) 5 F3) 6 H3) 7 L3) 9 A2) 10 T2) 11 W2) 12 S2) R ds y2 ∧ okW ds y2 (v 14) (v 13)
set_option maxRecDepth 100000 in
set_option maxHeartbeats 4000000 in
theorem qX11_gift (l : Launch) (a : Nat → Nat) (v : Nat → Int) (g : Nat → Int → Int) (R : Int → Int → Int) (ds : List LwS) (ys : Nat → LwY) (y1 : Int) (hz : okZ (v 13) (v 21) (v 22) (g 39) (g 40) (g 38) (g 41)) (hx_v : inR y1) (hod0 : 1 ≤ (v 13) → okDy (v 13) (v 14) (g 34) (g 33)) (hds : (ds.length : Int) = (v 1) ∧ 0 ≤ (v 1) ∧ (v 1) ≤ 4) (hdy : okW ds ys (v 14) (v 13)) (hho : -1 ≤ (v 2) ∧ (v 2) < (v 1)) (htd : 0 ≤ (v 15) ∧ (v 15) ≤ 1000) : AMi l yX11_gift cX11_gift 7 .int 8 0 0 [rv (a 19), iv y1] (CW a v g R ds ys) (QX11_gift a v g R ds ys y1) := by
  have hk := (kX11_gift l (a 19) (o10 a v) (a 31) (o7w a v) (o4 a v) (o5s a v) (v 13) (v 21) (v 22) (v 23) (a 8) (a 37) (a 9) (a 10) (a 11) (a 12) (a 38) (a 39) (a 40) (a 41) (g 9) (g 10) (g 11) (g 12) (g 38) (g 39) (g 40) (g 41) (v 30) (v 31) (v 32) y1 (a 3) (a 4) (a 5) (a 6) (a 7) (o5t a v) (g 4) (g 5) (g 6) (g 7) (v 24) (v 25) (v 26) (v 27) (a 33) (a 34) (g 33) (g 34) ds ys (v 14) (v 1) (a 44) (v 2) (a 42) (o0 a v) (v 15) rfl rfl rfl rfl rfl rfl rfl rfl rfl rfl rfl rfl rfl rfl rfl rfl rfl rfl rfl rfl rfl rfl rfl rfl rfl rfl rfl rfl hz hx_v hod0 hds hdy hho htd)
  simp only [Po4_6, Po4_7, Po4_8, Po5t_0, Po5t_1, Po5t_2, Po5t_3, uF_self] at hk
  refine AMi.gT (wl := CF a v g R ds) (is := [19, 31, 8, 9, 10, 11, 12, 37, 38, 39, 40, 41, 3, 4, 5, 6, 7, 33, 34, 44, 42]) [0, 1, 2, 13, 14, 15, 16, 17, 18, 20, 21, 22, 23, 24, 25, 26, 27, 28, 29, 30, 32, 35, 36, 43] 45 hk rfl rfl (by decide +kernel) (by decide +kernel) (fun z u hq => ?_)
  obtain ⟨z9, p9, n9, k9, A2, T2, W2, S2, t4, t5, t6, t7, B3, F3, H3, L3, y2, hz, hu, hy2⟩ := hq
  subst hu
  exact ⟨_, _, rfl, rfl, lwT_key _ _ _, CF a (uF (uF (uF (uF (uF (uF (uF v 24 t4) 25 t5) 26 t6) 27 t7) 30 p9) 31 n9) 32 k9) (uF (uF (uF (uF (uF (uF (uF (uF g 4 B3) 5 F3) 6 H3) 7 L3) 9 A2) 10 T2) 11 W2) 12 S2) R ds, rfl, rfl, CF_rest (by decide) rfl, ⟨z9, p9, n9, k9, A2, T2, W2, S2, t4, t5, t6, t7, B3, F3, H3, L3, y2, hz, rfl, hy2⟩⟩
def QX11_tune (a : Nat → Nat) (v : Nat → Int) (g : Nat → Int → Int) (R : Int → Int → Int) (ds : List LwS) (ys : Nat → LwY) (y1 y2 : Int) (z : Int) (u : EW) : Prop := ∃ z9 : Int, ∃ p9 : Int, ∃ n9 : Int, ∃ k9 : Int, ∃ A2 : Int → Int, ∃ T2 : Int → Int, ∃ W2 : Int → Int, ∃ S2 : Int → Int, ∃ t4 : Int, ∃ t5 : Int, ∃ t6 : Int, ∃ t7 : Int, ∃ B3 : Int → Int, ∃ F3 : Int → Int, ∃ H3 : Int → Int, ∃ L3 : Int → Int, z = z9 ∧ u = CW a (uF (uF (uF (uF (uF (uF (uF v 24 t4) 25 t5) 26 t6) 27 t7) 30 p9) 31 n9) 32 k9) (uF (uF (uF (uF (uF (uF (uF (uF g 4 B3) 5 F3) 6 H3) 7 L3) 9 A2) 10 T2) 11 W2) 12 S2) R ds ys ∧ rTune (v 13) (v 21) (v 22) (v 23) (g 39) (g 40) (g 38) (g 41) (v 0) y1 y2 z9
set_option maxRecDepth 100000 in
set_option maxHeartbeats 4000000 in
theorem qX11_tune (l : Launch) (a : Nat → Nat) (v : Nat → Int) (g : Nat → Int → Int) (R : Int → Int → Int) (ds : List LwS) (ys : Nat → LwY) (y1 y2 : Int) (hz : okZ (v 13) (v 21) (v 22) (g 39) (g 40) (g 38) (g 41)) (hx_q : inR y1) (hx_v : inR y2) (hlim : 0 ≤ (v 0) ∧ (v 0) ≤ 999) : AMi l yX11_tune cX11_tune 7 .int 4 0 0 [rv (a 19), iv y1, iv y2] (CW a v g R ds ys) (QX11_tune a v g R ds ys y1 y2) := by
  have hk := (kX11_tune l (a 19) (o10 a v) (a 31) (o7w a v) (o4 a v) (o5s a v) (v 13) (v 21) (v 22) (v 23) (a 8) (a 37) (a 9) (a 10) (a 11) (a 12) (a 38) (a 39) (a 40) (a 41) (g 9) (g 10) (g 11) (g 12) (g 38) (g 39) (g 40) (g 41) (v 30) (v 31) (v 32) y1 y2 (a 3) (a 4) (a 5) (a 6) (a 7) (o5t a v) (g 4) (g 5) (g 6) (g 7) (v 24) (v 25) (v 26) (v 27) (v 0) rfl rfl rfl rfl rfl rfl rfl rfl rfl rfl rfl rfl rfl rfl rfl rfl rfl rfl rfl rfl rfl rfl hz hx_q hx_v hlim)
  simp only [Po4_6, Po4_7, Po4_8, Po5t_0, Po5t_1, Po5t_2, Po5t_3, uF_self] at hk
  refine AMi.gL (wl := CF a v g R ds) (is := [19, 31, 8, 9, 10, 11, 12, 37, 38, 39, 40, 41, 3, 4, 5, 6, 7]) [0, 1, 2, 13, 14, 15, 16, 17, 18, 20, 21, 22, 23, 24, 25, 26, 27, 28, 29, 30, 32, 33, 34, 35, 36, 42, 43, 44] 45 hk rfl rfl (by decide +kernel) (by decide +kernel) (fun z u hq => ?_)
  obtain ⟨z9, p9, n9, k9, A2, T2, W2, S2, t4, t5, t6, t7, B3, F3, H3, L3, hz, hu, hs⟩ := hq
  subst hu
  exact ⟨rfl, CF a (uF (uF (uF (uF (uF (uF (uF v 24 t4) 25 t5) 26 t6) 27 t7) 30 p9) 31 n9) 32 k9) (uF (uF (uF (uF (uF (uF (uF (uF g 4 B3) 5 F3) 6 H3) 7 L3) 9 A2) 10 T2) 11 W2) 12 S2) R ds, rfl, rfl, CF_rest (by decide) rfl, ⟨z9, p9, n9, k9, A2, T2, W2, S2, t4, t5, t6, t7, B3, F3, H3, L3, hz, rfl, hs⟩⟩
def QX11_place (a : Nat → Nat) (v : Nat → Int) (g : Nat → Int → Int) (R : Int → Int → Int) (ds : List LwS) (ys : Nat → LwY) (y1 y2 : Int) (z : Int) (u : EW) : Prop := ∃ p9 : Int, ∃ n9 : Int, ∃ k9 : Int, ∃ A2 : Int → Int, ∃ T2 : Int → Int, ∃ W2 : Int → Int, ∃ S2 : Int → Int, z = aPlace (v 13) (v 21) (v 22) (v 23) (g 39) (g 40) (g 38) (g 41) y1 y2 ∧ u = CW a (uF (uF (uF v 30 p9) 31 n9) 32 k9) (uF (uF (uF (uF g 9 A2) 10 T2) 11 W2) 12 S2) R ds ys
set_option maxRecDepth 100000 in
set_option maxHeartbeats 4000000 in
theorem qX11_place (l : Launch) (a : Nat → Nat) (v : Nat → Int) (g : Nat → Int → Int) (R : Int → Int → Int) (ds : List LwS) (ys : Nat → LwY) (y1 y2 : Int) (hz : okZ (v 13) (v 21) (v 22) (g 39) (g 40) (g 38) (g 41)) (hx_b : inR y1) (hx_i : inR y2) : AMi l yX11_place cX11_place 3 .int 4 0 0 [rv (a 19), iv y1, iv y2] (CW a v g R ds ys) (QX11_place a v g R ds ys y1 y2) := by
  have hk := (kX11_place l (a 19) (o10 a v) (a 31) (o7w a v) (o4 a v) (o5s a v) (v 13) (v 21) (v 22) (v 23) (a 8) (a 37) (a 9) (a 10) (a 11) (a 12) (a 38) (a 39) (a 40) (a 41) (g 9) (g 10) (g 11) (g 12) (g 38) (g 39) (g 40) (g 41) (v 30) (v 31) (v 32) y1 y2 rfl rfl rfl rfl rfl rfl rfl rfl rfl rfl rfl rfl rfl rfl rfl rfl hz hx_b hx_i)
  simp only [Po4_6, Po4_7, Po4_8, uF_self] at hk
  refine AMi.gL (wl := CF a v g R ds) (is := [19, 31, 8, 9, 10, 11, 12, 37, 38, 39, 40, 41]) [0, 1, 2, 3, 4, 5, 6, 7, 13, 14, 15, 16, 17, 18, 20, 21, 22, 23, 24, 25, 26, 27, 28, 29, 30, 32, 33, 34, 35, 36, 42, 43, 44] 45 hk rfl rfl (by decide +kernel) (by decide +kernel) (fun z u hq => ?_)
  obtain ⟨p9, n9, k9, A2, T2, W2, S2, hz, hu⟩ := hq
  subst hu
  exact ⟨rfl, CF a (uF (uF (uF v 30 p9) 31 n9) 32 k9) (uF (uF (uF (uF g 9 A2) 10 T2) 11 W2) 12 S2) R ds, rfl, rfl, CF_rest (by decide) rfl, ⟨p9, n9, k9, A2, T2, W2, S2, hz, rfl⟩⟩
def QX11_overtakes (a : Nat → Nat) (v : Nat → Int) (g : Nat → Int → Int) (R : Int → Int → Int) (ds : List LwS) (ys : Nat → LwY) (y1 y2 : Int) (z : Int) (u : EW) : Prop := ∃ p9 : Int, ∃ n9 : Int, ∃ k9 : Int, ∃ A2 : Int → Int, ∃ T2 : Int → Int, ∃ W2 : Int → Int, ∃ S2 : Int → Int, z = aOver (v 13) (v 21) (v 22) (v 23) (g 39) (g 40) (g 38) (g 41) y1 y2 ∧ u = CW a (uF (uF (uF v 30 p9) 31 n9) 32 k9) (uF (uF (uF (uF g 9 A2) 10 T2) 11 W2) 12 S2) R ds ys
set_option maxRecDepth 100000 in
set_option maxHeartbeats 4000000 in
theorem qX11_overtakes (l : Launch) (a : Nat → Nat) (v : Nat → Int) (g : Nat → Int → Int) (R : Int → Int → Int) (ds : List LwS) (ys : Nat → LwY) (y1 y2 : Int) (hz : okZ (v 13) (v 21) (v 22) (g 39) (g 40) (g 38) (g 41)) (hx_i : inR y1) (hx_j : inR y2) : AMi l yX11_overtakes cX11_overtakes 3 .int 4 0 0 [rv (a 19), iv y1, iv y2] (CW a v g R ds ys) (QX11_overtakes a v g R ds ys y1 y2) := by
  have hk := (kX11_overtakes l (a 19) (o10 a v) (a 31) (o7w a v) (o4 a v) (o5s a v) (v 13) (v 21) (v 22) (v 23) (a 8) (a 37) (a 9) (a 10) (a 11) (a 12) (a 38) (a 39) (a 40) (a 41) (g 9) (g 10) (g 11) (g 12) (g 38) (g 39) (g 40) (g 41) (v 30) (v 31) (v 32) y1 y2 rfl rfl rfl rfl rfl rfl rfl rfl rfl rfl rfl rfl rfl rfl rfl rfl hz hx_i hx_j)
  simp only [Po4_6, Po4_7, Po4_8, uF_self] at hk
  refine AMi.gL (wl := CF a v g R ds) (is := [19, 31, 8, 9, 10, 11, 12, 37, 38, 39, 40, 41]) [0, 1, 2, 3, 4, 5, 6, 7, 13, 14, 15, 16, 17, 18, 20, 21, 22, 23, 24, 25, 26, 27, 28, 29, 30, 32, 33, 34, 35, 36, 42, 43, 44] 45 hk rfl rfl (by decide +kernel) (by decide +kernel) (fun z u hq => ?_)
  obtain ⟨p9, n9, k9, A2, T2, W2, S2, hz, hu⟩ := hq
  subst hu
  exact ⟨rfl, CF a (uF (uF (uF v 30 p9) 31 n9) 32 k9) (uF (uF (uF (uF g 9 A2) 10 T2) 11 W2) 12 S2) R ds, rfl, rfl, CF_rest (by decide) rfl, ⟨p9, n9, k9, A2, T2, W2, S2, hz, rfl⟩⟩
def QX11_middle (a : Nat → Nat) (v : Nat → Int) (g : Nat → Int → Int) (R : Int → Int → Int) (ds : List LwS) (ys : Nat → LwY) (z : Int) (u : EW) : Prop := ∃ p9 : Int, ∃ n9 : Int, ∃ k9 : Int, ∃ A2 : Int → Int, ∃ T2 : Int → Int, ∃ W2 : Int → Int, ∃ S2 : Int → Int, z = aMiddle (v 13) (v 21) (v 22) (v 23) (g 39) (g 40) (g 38) (g 41) ∧ u = CW a (uF (uF (uF v 30 p9) 31 n9) 32 k9) (uF (uF (uF (uF g 9 A2) 10 T2) 11 W2) 12 S2) R ds ys
set_option maxRecDepth 100000 in
set_option maxHeartbeats 4000000 in
theorem qX11_middle (l : Launch) (a : Nat → Nat) (v : Nat → Int) (g : Nat → Int → Int) (R : Int → Int → Int) (ds : List LwS) (ys : Nat → LwY) (hz : okZ (v 13) (v 21) (v 22) (g 39) (g 40) (g 38) (g 41)) : AMi l yX11_middle cX11_middle 1 .int 4 0 0 [rv (a 19)] (CW a v g R ds ys) (QX11_middle a v g R ds ys) := by
  have hk := (kX11_middle l (a 19) (o10 a v) (a 31) (o7w a v) (o4 a v) (o5s a v) (v 13) (v 21) (v 22) (v 23) (a 8) (a 37) (a 9) (a 10) (a 11) (a 12) (a 38) (a 39) (a 40) (a 41) (g 9) (g 10) (g 11) (g 12) (g 38) (g 39) (g 40) (g 41) (v 30) (v 31) (v 32) rfl rfl rfl rfl rfl rfl rfl rfl rfl rfl rfl rfl rfl rfl rfl rfl hz)
  simp only [Po4_6, Po4_7, Po4_8, uF_self] at hk
  refine AMi.gL (wl := CF a v g R ds) (is := [19, 31, 8, 9, 10, 11, 12, 37, 38, 39, 40, 41]) [0, 1, 2, 3, 4, 5, 6, 7, 13, 14, 15, 16, 17, 18, 20, 21, 22, 23, 24, 25, 26, 27, 28, 29, 30, 32, 33, 34, 35, 36, 42, 43, 44] 45 hk rfl rfl (by decide +kernel) (by decide +kernel) (fun z u hq => ?_)
  obtain ⟨p9, n9, k9, A2, T2, W2, S2, hz, hu⟩ := hq
  subst hu
  exact ⟨rfl, CF a (uF (uF (uF v 30 p9) 31 n9) 32 k9) (uF (uF (uF (uF g 9 A2) 10 T2) 11 W2) 12 S2) R ds, rfl, rfl, CF_rest (by decide) rfl, ⟨p9, n9, k9, A2, T2, W2, S2, hz, rfl⟩⟩
def QX11_ends (a : Nat → Nat) (v : Nat → Int) (g : Nat → Int → Int) (R : Int → Int → Int) (ds : List LwS) (ys : Nat → LwY) (y1 : Int) (z : Int) (u : EW) : Prop := ∃ p9 : Int, ∃ n9 : Int, ∃ k9 : Int, ∃ A2 : Int → Int, ∃ T2 : Int → Int, ∃ W2 : Int → Int, ∃ S2 : Int → Int, z = aEnds (v 13) (v 21) (v 22) (v 23) (g 39) (g 40) (g 38) (g 41) y1 ∧ u = CW a (uF (uF (uF v 30 p9) 31 n9) 32 k9) (uF (uF (uF (uF g 9 A2) 10 T2) 11 W2) 12 S2) R ds ys
set_option maxRecDepth 100000 in
set_option maxHeartbeats 4000000 in
theorem qX11_ends (l : Launch) (a : Nat → Nat) (v : Nat → Int) (g : Nat → Int → Int) (R : Int → Int → Int) (ds : List LwS) (ys : Nat → LwY) (y1 : Int) (hz : okZ (v 13) (v 21) (v 22) (g 39) (g 40) (g 38) (g 41)) (hx_v : inR y1) : AMi l yX11_ends cX11_ends 4 .int 4 0 0 [rv (a 19), iv y1] (CW a v g R ds ys) (QX11_ends a v g R ds ys y1) := by
  have hk := (kX11_ends l (a 19) (o10 a v) (a 31) (o7w a v) (o4 a v) (o5s a v) (v 13) (v 21) (v 22) (v 23) (a 8) (a 37) (a 9) (a 10) (a 11) (a 12) (a 38) (a 39) (a 40) (a 41) (g 9) (g 10) (g 11) (g 12) (g 38) (g 39) (g 40) (g 41) (v 30) (v 31) (v 32) y1 rfl rfl rfl rfl rfl rfl rfl rfl rfl rfl rfl rfl rfl rfl rfl rfl hz hx_v)
  simp only [Po4_6, Po4_7, Po4_8, uF_self] at hk
  refine AMi.gL (wl := CF a v g R ds) (is := [19, 31, 8, 9, 10, 11, 12, 37, 38, 39, 40, 41]) [0, 1, 2, 3, 4, 5, 6, 7, 13, 14, 15, 16, 17, 18, 20, 21, 22, 23, 24, 25, 26, 27, 28, 29, 30, 32, 33, 34, 35, 36, 42, 43, 44] 45 hk rfl rfl (by decide +kernel) (by decide +kernel) (fun z u hq => ?_)
  obtain ⟨p9, n9, k9, A2, T2, W2, S2, hz, hu⟩ := hq
  subst hu
  exact ⟨rfl, CF a (uF (uF (uF v 30 p9) 31 n9) 32 k9) (uF (uF (uF (uF g 9 A2) 10 T2) 11 W2) 12 S2) R ds, rfl, rfl, CF_rest (by decide) rfl, ⟨p9, n9, k9, A2, T2, W2, S2, hz, rfl⟩⟩
def QX11_stray (a : Nat → Nat) (v : Nat → Int) (g : Nat → Int → Int) (R : Int → Int → Int) (ds : List LwS) (ys : Nat → LwY) (y1 y2 : Int) (z : Int) (u : EW) : Prop := ∃ p9 : Int, ∃ n9 : Int, ∃ k9 : Int, ∃ A2 : Int → Int, ∃ T2 : Int → Int, ∃ W2 : Int → Int, ∃ S2 : Int → Int, z = aStray (v 13) (v 21) (v 22) (g 39) (g 40) (g 38) y1 y2 ∧ u = CW a (uF (uF (uF v 30 p9) 31 n9) 32 k9) (uF (uF (uF (uF g 9 A2) 10 T2) 11 W2) 12 S2) R ds ys
set_option maxRecDepth 100000 in
set_option maxHeartbeats 4000000 in
theorem qX11_stray (l : Launch) (a : Nat → Nat) (v : Nat → Int) (g : Nat → Int → Int) (R : Int → Int → Int) (ds : List LwS) (ys : Nat → LwY) (y1 y2 : Int) (hz : okZ (v 13) (v 21) (v 22) (g 39) (g 40) (g 38) (g 41)) (hx_q : inR y1) (hx_v : inR y2) : AMi l yX11_stray cX11_stray 3 .int 4 0 0 [rv (a 19), iv y1, iv y2] (CW a v g R ds ys) (QX11_stray a v g R ds ys y1 y2) := by
  have hk := (kX11_stray l (a 19) (o10 a v) (a 31) (o7w a v) (o4 a v) (o5s a v) (v 13) (v 21) (v 22) (v 23) (a 8) (a 37) (a 9) (a 10) (a 11) (a 12) (a 38) (a 39) (a 40) (a 41) (g 9) (g 10) (g 11) (g 12) (g 38) (g 39) (g 40) (g 41) (v 30) (v 31) (v 32) y1 y2 rfl rfl rfl rfl rfl rfl rfl rfl rfl rfl rfl rfl rfl rfl rfl rfl hz hx_q hx_v)
  simp only [Po4_6, Po4_7, Po4_8, uF_self] at hk
  refine AMi.gL (wl := CF a v g R ds) (is := [19, 31, 8, 9, 10, 11, 12, 37, 38, 39, 40, 41]) [0, 1, 2, 3, 4, 5, 6, 7, 13, 14, 15, 16, 17, 18, 20, 21, 22, 23, 24, 25, 26, 27, 28, 29, 30, 32, 33, 34, 35, 36, 42, 43, 44] 45 hk rfl rfl (by decide +kernel) (by decide +kernel) (fun z u hq => ?_)
  obtain ⟨p9, n9, k9, A2, T2, W2, S2, hz, hu⟩ := hq
  subst hu
  exact ⟨rfl, CF a (uF (uF (uF v 30 p9) 31 n9) 32 k9) (uF (uF (uF (uF g 9 A2) 10 T2) 11 W2) 12 S2) R ds, rfl, rfl, CF_rest (by decide) rfl, ⟨p9, n9, k9, A2, T2, W2, S2, hz, rfl⟩⟩
def QX11_image (a : Nat → Nat) (v : Nat → Int) (g : Nat → Int → Int) (R : Int → Int → Int) (ds : List LwS) (ys : Nat → LwY) (z : Int) (u : EW) : Prop := (z = -1 ∧ u = CW a v g R ds ys ∧ (v 13) = 0) ∨ (z = (v 15) ∧ u = CW a (uF (uF v 17 1) 18 (v 15)) (uF g 0 (cpZ (g 38) (g 0) 0 0 6)) R ds ys ∧ 1 ≤ (v 13))
set_option maxRecDepth 100000 in
set_option maxHeartbeats 4000000 in
theorem qX11_image (l : Launch) (a : Nat → Nat) (v : Nat → Int) (g : Nat → Int → Int) (R : Int → Int → Int) (ds : List LwS) (ys : Nat → LwY) (hpl : 0 ≤ (v 13) ∧ (v 13) ≤ 6) : AMi l yX11_image cX11_image 1 .int 2 0 0 [rv (a 19)] (CW a v g R ds ys) (QX11_image a v g R ds ys) := by
  have hk := (kX11_image l (a 19) (o10 a v) (a 31) (o7w a v) (o5s a v) (v 13) (a 37) (a 38) (g 38) (a 42) (o0 a v) (a 0) (g 0) (v 15) (v 16) (v 17) (v 18) (v 19) rfl rfl rfl rfl rfl rfl hpl)
  simp only [Po0_0, Po0_1, Po0_2, Po0_3, Po0_4, uF_self] at hk
  refine AMi.gL (wl := CF a v g R ds) (is := [19, 31, 42, 0, 37, 38]) [1, 2, 3, 4, 5, 6, 7, 8, 9, 10, 11, 12, 13, 14, 15, 16, 17, 18, 20, 21, 22, 23, 24, 25, 26, 27, 28, 29, 30, 32, 33, 34, 35, 36, 39, 40, 41, 43, 44] 45 hk rfl rfl (by decide +kernel) (by decide +kernel) (fun z u hq => ?_)
  rcases hq with ⟨hz, hu, hq⟩ | ⟨hz, hu, hq⟩
  · subst hu
    exact ⟨rfl, CF a v g R ds, rfl, rfl, CF_rest (by decide) rfl, Or.inl ⟨hz, rfl, hq⟩⟩
  · subst hu
    exact ⟨rfl, CF a (uF (uF v 17 1) 18 (v 15)) (uF g 0 (cpZ (g 38) (g 0) 0 0 6)) R ds, rfl, rfl, CF_rest (by decide) rfl, Or.inr (⟨hz, rfl, hq⟩)⟩
def QX11_back (a : Nat → Nat) (v : Nat → Int) (g : Nat → Int → Int) (R : Int → Int → Int) (ds : List LwS) (ys : Nat → LwY) (z : Int) (u : EW) : Prop := (z = -1 ∧ u = CW a v g R ds ys ∧ (v 17) = 0) ∨ (z = (v 18) ∧ u = CW a (uF (uF (uF v 15 (v 18)) 16 0) 35 0) (uF g 38 (cpZ (g 0) (g 38) 0 0 6)) R ds ys ∧ (v 17) = 1)
set_option maxRecDepth 100000 in
set_option maxHeartbeats 4000000 in
theorem qX11_back (l : Launch) (a : Nat → Nat) (v : Nat → Int) (g : Nat → Int → Int) (R : Int → Int → Int) (ds : List LwS) (ys : Nat → LwY) (hhi : (v 17) = 0 ∨ (v 17) = 1) : AMi l yX11_back cX11_back 1 .int 2 0 0 [rv (a 19)] (CW a v g R ds ys) (QX11_back a v g R ds ys) := by
  have hk := (kX11_back l (a 19) (o10 a v) (o5s a v) (a 37) (a 38) (g 38) (a 43) (o9 a v) (v 35) (a 42) (o0 a v) (a 0) (g 0) (v 15) (v 16) (v 17) (v 18) (v 19) rfl rfl rfl rfl rfl hhi)
  simp only [Po0_0, Po0_1, Po0_2, Po0_3, Po0_4, Po9_0, uF_self] at hk
  refine AMi.gL (wl := CF a v g R ds) (is := [19, 42, 0, 37, 38, 43]) [1, 2, 3, 4, 5, 6, 7, 8, 9, 10, 11, 12, 13, 14, 15, 16, 17, 18, 20, 21, 22, 23, 24, 25, 26, 27, 28, 29, 30, 31, 32, 33, 34, 35, 36, 39, 40, 41, 44] 45 hk rfl rfl (by decide +kernel) (by decide +kernel) (fun z u hq => ?_)
  rcases hq with ⟨hz, hu, hq⟩ | ⟨hz, hu, hq⟩
  · subst hu
    exact ⟨rfl, CF a v g R ds, rfl, rfl, CF_rest (by decide) rfl, Or.inl ⟨hz, rfl, hq⟩⟩
  · subst hu
    exact ⟨rfl, CF a (uF (uF (uF v 15 (v 18)) 16 0) 35 0) (uF g 38 (cpZ (g 0) (g 38) 0 0 6)) R ds, rfl, rfl, CF_rest (by decide) rfl, Or.inr (⟨hz, rfl, hq⟩)⟩
def QX11_count (a : Nat → Nat) (v : Nat → Int) (g : Nat → Int → Int) (R : Int → Int → Int) (ds : List LwS) (ys : Nat → LwY) (y1 : Int) (z : Int) (u : EW) : Prop := ∃ z9 : Int, z = z9 ∧ u = CW a v g R ds ys
set_option maxRecDepth 100000 in
set_option maxHeartbeats 4000000 in
theorem qX11_count (l : Launch) (a : Nat → Nat) (v : Nat → Int) (g : Nat → Int → Int) (R : Int → Int → Int) (ds : List LwS) (ys : Nat → LwY) (y1 : Int) (hx_v : inR y1) : AMi l yX11_count cX11_count 2 .int 0 0 0 [rv (a 19), iv y1] (CW a v g R ds ys) (QX11_count a v g R ds ys y1) := by
  have hk := (kX11_count l (a 19) (o10 a v) (a 31) (o7w a v) (o5s a v) (v 13) (v 21) (v 22) (v 23) (a 37) (a 42) (o0 a v) (v 15) (v 16) (v 17) (v 18) (v 19) (a 20) (o6 a v) (v 14) y1 (v 1) (v 4) (v 2) (v 0) (v 3) rfl rfl rfl rfl rfl rfl rfl rfl rfl rfl rfl rfl rfl rfl rfl hx_v)
  simp only [Po0_0, Po0_1, Po0_2, Po0_3, Po0_4, uF_self] at hk
  refine AMi.gL (wl := CF a v g R ds) (is := [19, 31, 37, 42, 20]) [0, 1, 2, 3, 4, 5, 6, 7, 8, 9, 10, 11, 12, 13, 14, 15, 16, 17, 18, 21, 22, 23, 24, 25, 26, 27, 28, 29, 30, 32, 33, 34, 35, 36, 38, 39, 40, 41, 43, 44] 45 hk rfl rfl (by decide +kernel) (by decide +kernel) (fun z u hq => ?_)
  obtain ⟨z9, hz, hu⟩ := hq
  subst hu
  exact ⟨rfl, CF a v g R ds, rfl, rfl, CF_rest (by decide) rfl, ⟨z9, hz, rfl⟩⟩
end pt_91qc
/- 92.qr.lean.txt -/
section pt_92qr
def QX12_feed (b : Nat → Nat) (w : Nat → Int) (h : Nat → Int → Int) (y1 y2 y3 y4 y5 : Int) (z : Int) (u : EW) : Prop := (z = -1 ∧ u = RW b w h ∧ 160 < (w 2) + fbn y1 y2 y3 y4 y5) ∨ (∃ n2 : Int, ∃ T2 : Int → Int, z = n2 ∧ u = RW b (uF w 2 n2) (uF h 1 T2) ∧ (w 2) + fbn y1 y2 y3 y4 y5 ≤ 160 ∧ n2 = (w 2) + fbn y1 y2 y3 y4 y5 ∧ T2 = wrL (h 1) (w 2) (fbs y1 y2 y3 y4 y5))
set_option maxRecDepth 100000 in
set_option maxHeartbeats 4000000 in
theorem qX12_feed (l : Launch) (b : Nat → Nat) (w : Nat → Int) (h : Nat → Int → Int) (y1 y2 y3 y4 y5 : Int) (hn : 0 ≤ (w 2) ∧ (w 2) ≤ 160) : AMi l yX12_feed cX12_feed 9 .int 1 0 0 [rv (b 0), iv y1, iv y2, iv y3, iv y4, iv y5] (RW b w h) (QX12_feed b w h y1 y2 y3 y4 y5) := by
  have hk := (kX12_feed l (b 0) (o11 b w) (b 1) (w 2) (h 1) y1 y2 y3 y4 y5 rfl hn)
  simp only [Po11_2, uF_self] at hk
  refine AMi.gE (is := [0, 1]) [2, 3, 4, 5, 6, 7, 8, 9, 10, 11, 12, 13, 14, 15, 16, 17, 18, 19, 20, 21, 22, 23, 24, 25, 26, 27] 28 hk rfl rfl (by decide +kernel) (by decide +kernel) (fun z u hq => ?_)
  rcases hq with ⟨hz, hu, hq⟩ | ⟨n2, T2, hz, hu, hq, h2, h3⟩
  · subst hu
    exact ⟨rfl, RW b w h, rfl, rfl, RW_rest (by decide) rfl, Or.inl ⟨hz, rfl, hq⟩⟩
  · subst hu
    exact ⟨rfl, RW b (uF w 2 n2) (uF h 1 T2), rfl, rfl, RW_rest (by decide) rfl, Or.inr (⟨n2, T2, hz, rfl, hq, h2, h3⟩)⟩
def QX12_end (b : Nat → Nat) (w : Nat → Int) (h : Nat → Int → Int) (y1 : Int) (z : Int) (u : EW) : Prop := (z = 0 ∧ u = RW b w h ∧ (¬ (0 ≤ y1 ∧ y1 ≤ (w 2)))) ∨ (z = 1 ∧ u = RW b (uF w 2 y1) h ∧ (0 ≤ y1 ∧ y1 ≤ (w 2)))
set_option maxRecDepth 100000 in
set_option maxHeartbeats 4000000 in
theorem qX12_end (l : Launch) (b : Nat → Nat) (w : Nat → Int) (h : Nat → Int → Int) (y1 : Int) (hn : 0 ≤ (w 2) ∧ (w 2) ≤ 160) (hk : inR y1) : AMi l yX12_end cX12_end 2 .boolean 0 0 0 [rv (b 0), iv y1] (RW b w h) (QX12_end b w h y1) := by
  have hk := (kX12_end l (b 0) (o11 b w) (w 2) y1 hn hk)
  simp only [Po11_2, uF_self] at hk
  refine AMi.gE (is := [0]) [1, 2, 3, 4, 5, 6, 7, 8, 9, 10, 11, 12, 13, 14, 15, 16, 17, 18, 19, 20, 21, 22, 23, 24, 25, 26, 27] 28 hk rfl rfl (by decide +kernel) (by decide +kernel) (fun z u hq => ?_)
  rcases hq with ⟨hz, hu, hq⟩ | ⟨hz, hu, hq⟩
  · subst hu
    exact ⟨rfl, RW b w h, rfl, rfl, RW_rest (by decide) rfl, Or.inl ⟨hz, rfl, hq⟩⟩
  · subst hu
    exact ⟨rfl, RW b (uF w 2 y1) h, rfl, rfl, RW_rest (by decide) rfl, Or.inr (⟨hz, rfl, hq⟩)⟩
def QX12_fault (b : Nat → Nat) (w : Nat → Int) (h : Nat → Int → Int) (R : Int → Int → Int) (y1 : Int) (z : Int) (u : EW) : Prop := (∃ a2 : Int, ∃ fl : Int, ∃ p2 : Int, ∃ m2 : Int, ∃ R2 : Int → Int, z = fl ∧ u = RW b (uF (uF (uF (uF w 3 a2) 4 fl) 18 p2) 19 m2) (uF h 17 R2) ∧ y1 = 0 ∧ tnRes (h 1) (w 2) R = .inl fl ∧ (0 ≤ fl ∧ fl ≤ (w 2))) ∨ (∃ a2 : Int, ∃ p2 : Int, ∃ m2 : Int, ∃ x2 : Int, ∃ R2 : Int → Int, ∃ Rc : Int → Int → Int, z = -1 ∧ u = RW b (uF (uF (uF (uF w 3 a2) 4 (-1)) 18 p2) 19 m2) (uF h 17 R2) ∧ y1 = 0 ∧ tnRes (h 1) (w 2) R = .inr (p2, m2, x2, Rc) ∧ flat p2 R2 Rc ∧ okTS (p2, m2, x2, Rc)) ∨ (∃ a2 : Int, ∃ fl : Int, ∃ k2 : Int, ∃ dp2 : Int, ∃ j2 : Int, ∃ w2 : Int, ∃ C2 : Int → Int, ∃ V2 : Int → Int, ∃ Tf2 : Int → Int, ∃ Sf2 : Int → Int, ∃ Ef2 : Int → Int, z = fl ∧ u = RW b (uF (uF (uF (uF w 3 a2) 4 w2) 5 dp2) 14 4) (uF (uF (uF (uF (uF (uF (uF h 6 C2) 7 V2) 8 (uZ (h 8) 4 k2)) 9 (uZ (h 9) 4 j2)) 10 Tf2) 11 Sf2) 12 Ef2) ∧ y1 = 1 ∧ pLawLS (h 1) (w 2) 161 0 [] = .inl fl ∧ (0 ≤ fl ∧ fl ≤ (w 2)) ∧ frm 4 (h 6) C2 ∧ frm 4 (h 7) V2 ∧ frp 4 (h 10) Tf2 ∧ frp 4 (h 11) Sf2 ∧ frp 4 (h 12) Ef2) ∨ (∃ a2 : Int, ∃ cs : List (List Int × List Int), z = -1 ∧ u = RW b (uF (uF (uF (uF w 3 a2) 4 (-1)) 5 0) 14 4) (uF (uF (uF (uF (uF (uF (uF h 6 (wrL (h 6) (340 * 4 + 0) (List.map kC (codesOf cs)))) 7 (wrL (h 7) (340 * 4 + 0) (List.map kV (codesOf cs)))) 8 (uZ (h 8) 4 (0 + ((codesOf cs).length : Int)))) 9 (uZ (h 9) 4 (0 + ((cs).length : Int)))) 10 (wrL (h 10) (90 * 4 + 0) (tfOf 0 cs))) 11 (wrL (h 11) (90 * 4 + 0) (sfOf 0 cs))) 12 (wrL (h 12) (90 * 4 + 0) (stOf 0 cs))) ∧ y1 = 1 ∧ pLawLS (h 1) (w 2) 161 0 [] = .inr cs ∧ (((codesOf cs).length : Int) ≤ 160 ∧ 2 * (cs.length : Int) ≤ 160)) ∨ (z = -2 ∧ u = RW b w h ∧ (¬ y1 = 0 ∧ ¬ y1 = 1))
set_option maxRecDepth 100000 in
set_option maxHeartbeats 4000000 in
theorem qX12_fault (l : Launch) (b : Nat → Nat) (w : Nat → Int) (h : Nat → Int → Int) (R : Int → Int → Int) (y1 : Int) (okT : okT (h 1) (w 2)) (hso : inR y1) : AMi l yX12_fault cX12_fault 2 .int 41 0 0 [rv (b 0), iv y1] (RW b w h) (QX12_fault b w h R y1) := by
  have hk := (kX12_fault l (b 0) (b 1) (o11 b w) (h 1) (w 2) (b 6) (b 7) (b 8) (h 6) (h 7) (h 8) (b 9) (b 10) (b 11) (b 12) (h 9) (h 10) (h 11) (h 12) (w 14) (w 3) (w 4) (w 5) (w 19) (w 18) (b 17) (h 17) R y1 rfl rfl rfl rfl rfl rfl rfl rfl rfl rfl okT hso)
  simp only [Po11_14, Po11_18, Po11_19, Po11_3, Po11_4, Po11_5, uF_self] at hk
  refine AMi.gE (is := [0, 1, 11, 2, 3, 4, 5, 6, 7, 8]) [9, 10, 12, 13, 14, 15, 16, 17, 18, 19, 20, 21, 22, 23, 24, 25, 26, 27] 28 hk rfl rfl (by decide +kernel) (by decide +kernel) (fun z u hq => ?_)
  rcases hq with ⟨a2, fl, p2, m2, R2, hz, hu, h0s, hq, hr⟩ | ⟨a2, p2, m2, x2, R2, Rc, hz, hu, h0s, hq, hfl, hs⟩ | ⟨a2, fl, k2, dp2, j2, w2, C2, V2, Tf2, Sf2, Ef2, hz, hu, h1s, hq, hfl, hfC, hfV, hfT, hfS, hfE⟩ | ⟨a2, cs, hz, hu, h1s, hq, hl⟩ | ⟨hz, hu, hos⟩
  · subst hu
    exact ⟨rfl, RW b (uF (uF (uF (uF w 3 a2) 4 fl) 18 p2) 19 m2) (uF h 17 R2), rfl, rfl, RW_rest (by decide) rfl, Or.inl ⟨a2, fl, p2, m2, R2, hz, rfl, h0s, hq, hr⟩⟩
  · subst hu
    exact ⟨rfl, RW b (uF (uF (uF (uF w 3 a2) 4 (-1)) 18 p2) 19 m2) (uF h 17 R2), rfl, rfl, RW_rest (by decide) rfl, Or.inr (Or.inl ⟨a2, p2, m2, x2, R2, Rc, hz, rfl, h0s, hq, hfl, hs⟩)⟩
  · subst hu
    exact ⟨rfl, RW b (uF (uF (uF (uF w 3 a2) 4 w2) 5 dp2) 14 4) (uF (uF (uF (uF (uF (uF (uF h 6 C2) 7 V2) 8 (uZ (h 8) 4 k2)) 9 (uZ (h 9) 4 j2)) 10 Tf2) 11 Sf2) 12 Ef2), rfl, rfl, RW_rest (by decide) rfl, Or.inr (Or.inr (Or.inl ⟨a2, fl, k2, dp2, j2, w2, C2, V2, Tf2, Sf2, Ef2, hz, rfl, h1s, hq, hfl, hfC, hfV, hfT, hfS, hfE⟩))⟩
  · subst hu
    exact ⟨rfl, RW b (uF (uF (uF (uF w 3 a2) 4 (-1)) 5 0) 14 4) (uF (uF (uF (uF (uF (uF (uF h 6 (wrL (h 6) (340 * 4 + 0) (List.map kC (codesOf cs)))) 7 (wrL (h 7) (340 * 4 + 0) (List.map kV (codesOf cs)))) 8 (uZ (h 8) 4 (0 + ((codesOf cs).length : Int)))) 9 (uZ (h 9) 4 (0 + ((cs).length : Int)))) 10 (wrL (h 10) (90 * 4 + 0) (tfOf 0 cs))) 11 (wrL (h 11) (90 * 4 + 0) (sfOf 0 cs))) 12 (wrL (h 12) (90 * 4 + 0) (stOf 0 cs))), rfl, rfl, RW_rest (by decide) rfl, Or.inr (Or.inr (Or.inr (Or.inl ⟨a2, cs, hz, rfl, h1s, hq, hl⟩)))⟩
  · subst hu
    exact ⟨rfl, RW b w h, rfl, rfl, RW_rest (by decide) rfl, Or.inr (Or.inr (Or.inr (Or.inr (⟨hz, rfl, hos⟩))))⟩
def QX12_text (b : Nat → Nat) (w : Nat → Int) (h : Nat → Int → Int) (R : Int → Int → Int) (y1 : Int) (z : Int) (u : EW) : Prop := (∃ a2 : Int, ∃ fl : Int, ∃ p2 : Int, ∃ m2 : Int, ∃ R2 : Int → Int, z = -1 ∧ u = RW b (uF (uF (uF (uF w 3 a2) 4 fl) 18 p2) 19 m2) (uF h 17 R2) ∧ y1 = 0 ∧ tnRes (h 1) (w 2) R = .inl fl ∧ (0 ≤ fl ∧ fl ≤ (w 2))) ∨ (∃ a2 : Int, ∃ p2 : Int, ∃ m2 : Int, ∃ x2 : Int, ∃ R2 : Int → Int, ∃ Rc : Int → Int → Int, ∃ Q2 : Int → Int, ∃ B2 : Int → Int, ∃ E2 : Int → Int, z = p2 ∧ u = RW b (uF (uF (uF (uF (uF (uF (uF (uF (uF (uF (uF (uF w 2 0) 3 a2) 4 (-1)) 18 p2) 19 m2) 21 p2) 22 m2) 25 0) 26 0) 32 0) 46 0) 49 0) (uF (uF (uF (uF h 17 R2) 20 Q2) 23 B2) 24 E2) ∧ y1 = 0 ∧ tnRes (h 1) (w 2) R = .inr (p2, m2, x2, Rc) ∧ flat p2 R2 Rc ∧ okTS (p2, m2, x2, Rc) ∧ (∀ x, 0 ≤ x → x < 30 → Q2 x = R2 x) ∧ (∀ x, 0 ≤ x → x < 6 → B2 x = R2 (5 * x)) ∧ (∀ x, 0 ≤ x → x < 6 → E2 x = 0)) ∨ (∃ a2 : Int, ∃ fl : Int, ∃ k2 : Int, ∃ dp2 : Int, ∃ j2 : Int, ∃ w2 : Int, ∃ t2 : Int, ∃ C2 : Int → Int, ∃ V2 : Int → Int, ∃ Tf2 : Int → Int, ∃ Sf2 : Int → Int, ∃ Ef2 : Int → Int, z = -1 ∧ u = RW b (uF (uF (uF (uF w 3 a2) 4 w2) 5 dp2) 14 t2) (uF (uF (uF (uF (uF (uF (uF h 6 C2) 7 V2) 8 (uZ (h 8) (w 13) k2)) 9 (uZ (h 9) (w 13) j2)) 10 Tf2) 11 Sf2) 12 Ef2) ∧ (y1 = 1 ∧ (w 13) < 4) ∧ pLawLS (h 1) (w 2) 161 0 [] = .inl fl ∧ (0 ≤ fl ∧ fl ≤ (w 2)) ∧ frm (w 13) (h 6) C2 ∧ frm (w 13) (h 7) V2 ∧ frp (w 13) (h 10) Tf2 ∧ frp (w 13) (h 11) Sf2 ∧ frp (w 13) (h 12) Ef2) ∨ (∃ a2 : Int, ∃ cs : List (List Int × List Int), z = (w 13) ∧ u = RW b (uF (uF (uF (uF (uF (uF w 2 0) 3 a2) 4 (-1)) 5 0) 13 ((w 13) + 1)) 14 (w 13)) (uF (uF (uF (uF (uF (uF (uF h 6 (wrL (h 6) (340 * (w 13) + 0) (List.map kC (codesOf cs)))) 7 (wrL (h 7) (340 * (w 13) + 0) (List.map kV (codesOf cs)))) 8 (uZ (h 8) (w 13) (0 + ((codesOf cs).length : Int)))) 9 (uZ (h 9) (w 13) (0 + ((cs).length : Int)))) 10 (wrL (h 10) (90 * (w 13) + 0) (tfOf 0 cs))) 11 (wrL (h 11) (90 * (w 13) + 0) (sfOf 0 cs))) 12 (wrL (h 12) (90 * (w 13) + 0) (stOf 0 cs))) ∧ (y1 = 1 ∧ (w 13) < 4) ∧ pLawLS (h 1) (w 2) 161 0 [] = .inr cs ∧ (((codesOf cs).length : Int) ≤ 160 ∧ 2 * (cs.length : Int) ≤ 160)) ∨ (z = -1 ∧ u = RW b w h ∧ ((¬ y1 = 0 ∧ ¬ y1 = 1) ∨ (y1 = 1 ∧ (w 13) = 4)))
set_option maxRecDepth 100000 in
set_option maxHeartbeats 4000000 in
theorem qX12_text (l : Launch) (b : Nat → Nat) (w : Nat → Int) (h : Nat → Int → Int) (R : Int → Int → Int) (y1 : Int) (okT : okT (h 1) (w 2)) (hso : inR y1) (hlw : 0 ≤ (w 13) ∧ (w 13) ≤ 4) : AMi l yX12_text cX12_text 2 .int 41 0 0 [rv (b 0), iv y1] (RW b w h) (QX12_text b w h R y1) := by
  have hk := (kX12_text l (b 0) (b 1) (o11 b w) (h 1) (w 2) (b 6) (b 7) (b 8) (h 6) (h 7) (h 8) (b 9) (b 10) (b 11) (b 12) (h 9) (h 10) (h 11) (h 12) (w 14) (w 3) (w 4) (w 5) (w 13) (w 21) (w 22) (w 25) (w 32) (w 26) (w 46) (w 49) (w 19) (w 18) (b 17) (h 17) (b 20) (b 23) (b 24) (h 20) (h 23) (h 24) R y1 rfl rfl rfl rfl rfl rfl rfl rfl rfl rfl rfl rfl okT hso hlw)
  simp only [Po11_13, Po11_14, Po11_18, Po11_19, Po11_2, Po11_21, Po11_22, Po11_25, Po11_26, Po11_3, Po11_32, Po11_4, Po11_46, Po11_49, Po11_5, uF_self] at hk
  refine AMi.gE (is := [0, 1, 11, 2, 3, 4, 5, 6, 7, 8, 12, 13, 14]) [9, 10, 15, 16, 17, 18, 19, 20, 21, 22, 23, 24, 25, 26, 27] 28 hk rfl rfl (by decide +kernel) (by decide +kernel) (fun z u hq => ?_)
  rcases hq with ⟨a2, fl, p2, m2, R2, hz, hu, h0s, hq, hr⟩ | ⟨a2, p2, m2, x2, R2, Rc, Q2, B2, E2, hz, hu, h0s, hq, hfl, hs, hQ2, hB2, hE2⟩ | ⟨a2, fl, k2, dp2, j2, w2, t2, C2, V2, Tf2, Sf2, Ef2, hz, hu, h1s, hq, hfl, hfC, hfV, hfT, hfS, hfE⟩ | ⟨a2, cs, hz, hu, h1s, hq, hl⟩ | ⟨hz, hu, hos⟩
  · subst hu
    exact ⟨rfl, RW b (uF (uF (uF (uF w 3 a2) 4 fl) 18 p2) 19 m2) (uF h 17 R2), rfl, rfl, RW_rest (by decide) rfl, Or.inl ⟨a2, fl, p2, m2, R2, hz, rfl, h0s, hq, hr⟩⟩
  · subst hu
    exact ⟨rfl, RW b (uF (uF (uF (uF (uF (uF (uF (uF (uF (uF (uF (uF w 2 0) 3 a2) 4 (-1)) 18 p2) 19 m2) 21 p2) 22 m2) 25 0) 26 0) 32 0) 46 0) 49 0) (uF (uF (uF (uF h 17 R2) 20 Q2) 23 B2) 24 E2), rfl, rfl, RW_rest (by decide) rfl, Or.inr (Or.inl ⟨a2, p2, m2, x2, R2, Rc, Q2, B2, E2, hz, rfl, h0s, hq, hfl, hs, hQ2, hB2, hE2⟩)⟩
  · subst hu
    exact ⟨rfl, RW b (uF (uF (uF (uF w 3 a2) 4 w2) 5 dp2) 14 t2) (uF (uF (uF (uF (uF (uF (uF h 6 C2) 7 V2) 8 (uZ (h 8) (w 13) k2)) 9 (uZ (h 9) (w 13) j2)) 10 Tf2) 11 Sf2) 12 Ef2), rfl, rfl, RW_rest (by decide) rfl, Or.inr (Or.inr (Or.inl ⟨a2, fl, k2, dp2, j2, w2, t2, C2, V2, Tf2, Sf2, Ef2, hz, rfl, h1s, hq, hfl, hfC, hfV, hfT, hfS, hfE⟩))⟩
  · subst hu
    exact ⟨rfl, RW b (uF (uF (uF (uF (uF (uF w 2 0) 3 a2) 4 (-1)) 5 0) 13 ((w 13) + 1)) 14 (w 13)) (uF (uF (uF (uF (uF (uF (uF h 6 (wrL (h 6) (340 * (w 13) + 0) (List.map kC (codesOf cs)))) 7 (wrL (h 7) (340 * (w 13) + 0) (List.map kV (codesOf cs)))) 8 (uZ (h 8) (w 13) (0 + ((codesOf cs).length : Int)))) 9 (uZ (h 9) (w 13) (0 + ((cs).length : Int)))) 10 (wrL (h 10) (90 * (w 13) + 0) (tfOf 0 cs))) 11 (wrL (h 11) (90 * (w 13) + 0) (sfOf 0 cs))) 12 (wrL (h 12) (90 * (w 13) + 0) (stOf 0 cs))), rfl, rfl, RW_rest (by decide) rfl, Or.inr (Or.inr (Or.inr (Or.inl ⟨a2, cs, hz, rfl, h1s, hq, hl⟩)))⟩
  · subst hu
    exact ⟨rfl, RW b w h, rfl, rfl, RW_rest (by decide) rfl, Or.inr (Or.inr (Or.inr (Or.inr (⟨hz, rfl, hos⟩))))⟩
def QX12_set (b : Nat → Nat) (w : Nat → Int) (h : Nat → Int → Int) (y1 y2 : Int) (z : Int) (u : EW) : Prop := (z = 0 ∧ u = RW b w h ∧ (¬ ((y1 = 0 ∧ -1 ≤ y2 ∧ y2 < (w 13)) ∨ (y1 = 1 ∧ 1 ≤ y2 ∧ y2 ≤ 30) ∨ (y1 = 2 ∧ 0 ≤ y2 ∧ y2 ≤ 3) ∨ (y1 = 3 ∧ 0 ≤ y2 ∧ y2 ≤ 999)))) ∨ (z = 1 ∧ u = RW b (uF w 27 y2) h ∧ (y1 = 0 ∧ -1 ≤ y2 ∧ y2 < (w 13))) ∨ (z = 1 ∧ u = RW b (uF w 28 y2) h ∧ (y1 = 1 ∧ 1 ≤ y2 ∧ y2 ≤ 30)) ∨ (z = 1 ∧ u = RW b (uF w 29 y2) h ∧ (y1 = 2 ∧ 0 ≤ y2 ∧ y2 ≤ 3)) ∨ (z = 1 ∧ u = RW b (uF w 30 y2) h ∧ (y1 = 3 ∧ 0 ≤ y2 ∧ y2 ≤ 999))
set_option maxRecDepth 100000 in
set_option maxHeartbeats 4000000 in
theorem qX12_set (l : Launch) (b : Nat → Nat) (w : Nat → Int) (h : Nat → Int → Int) (y1 y2 : Int) (hlw : 0 ≤ (w 13) ∧ (w 13) ≤ 4) (hx_v : inR y1) (hx_x : inR y2) : AMi l yX12_set cX12_set 3 .boolean 1 0 0 [rv (b 0), iv y1, iv y2] (RW b w h) (QX12_set b w h y1 y2) := by
  have hk := (kX12_set l (b 0) (o11 b w) (w 27) (w 28) (w 29) (w 30) (w 13) y1 y2 rfl hlw hx_v hx_x)
  simp only [Po11_27, Po11_28, Po11_29, Po11_30, uF_self] at hk
  refine AMi.gE (is := [0]) [1, 2, 3, 4, 5, 6, 7, 8, 9, 10, 11, 12, 13, 14, 15, 16, 17, 18, 19, 20, 21, 22, 23, 24, 25, 26, 27] 28 hk rfl rfl (by decide +kernel) (by decide +kernel) (fun z u hq => ?_)
  rcases hq with ⟨hz, hu, hq⟩ | ⟨hz, hu, hq⟩ | ⟨hz, hu, hq⟩ | ⟨hz, hu, hq⟩ | ⟨hz, hu, hq⟩
  · subst hu
    exact ⟨rfl, RW b w h, rfl, rfl, RW_rest (by decide) rfl, Or.inl ⟨hz, rfl, hq⟩⟩
  · subst hu
    exact ⟨rfl, RW b (uF w 27 y2) h, rfl, rfl, RW_rest (by decide) rfl, Or.inr (Or.inl ⟨hz, rfl, hq⟩)⟩
  · subst hu
    exact ⟨rfl, RW b (uF w 28 y2) h, rfl, rfl, RW_rest (by decide) rfl, Or.inr (Or.inr (Or.inl ⟨hz, rfl, hq⟩))⟩
  · subst hu
    exact ⟨rfl, RW b (uF w 29 y2) h, rfl, rfl, RW_rest (by decide) rfl, Or.inr (Or.inr (Or.inr (Or.inl ⟨hz, rfl, hq⟩)))⟩
  · subst hu
    exact ⟨rfl, RW b (uF w 30 y2) h, rfl, rfl, RW_rest (by decide) rfl, Or.inr (Or.inr (Or.inr (Or.inr (⟨hz, rfl, hq⟩))))⟩
def QX12_tell (b : Nat → Nat) (w : Nat → Int) (h : Nat → Int → Int) (y1 y2 y3 : Int) (z : Int) (u : EW) : Prop := (z = 0 ∧ u = RW b w h ∧ (¬ ((0 ≤ y1 ∧ y1 < (w 21)) ∧ ((y2 = 0 ∧ -1 ≤ y3 ∧ y3 < (w 21) ∧ y3 ≠ y1) ∨ (y2 = 1 ∧ 0 ≤ y3 ∧ y3 ≤ 10) ∨ (y2 = 2 ∧ 0 ≤ y3 ∧ y3 ≤ 50))))) ∨ (z = 1 ∧ u = RW b w (uF h 20 (uZ (h 20) (5 * y1 + 3) y3)) ∧ ((0 ≤ y1 ∧ y1 < (w 21)) ∧ y2 = 0 ∧ -1 ≤ y3 ∧ y3 < (w 21) ∧ y3 ≠ y1)) ∨ (z = 1 ∧ u = RW b w (uF h 20 (uZ (h 20) (5 * y1 + 4) y3)) ∧ ((0 ≤ y1 ∧ y1 < (w 21)) ∧ y2 = 1 ∧ 0 ≤ y3 ∧ y3 ≤ 10)) ∨ (z = 1 ∧ u = RW b w (uF h 24 (uZ (h 24) y1 y3)) ∧ ((0 ≤ y1 ∧ y1 < (w 21)) ∧ y2 = 2 ∧ 0 ≤ y3 ∧ y3 ≤ 50))
set_option maxRecDepth 100000 in
set_option maxHeartbeats 4000000 in
theorem qX12_tell (l : Launch) (b : Nat → Nat) (w : Nat → Int) (h : Nat → Int → Int) (y1 y2 y3 : Int) (hpl : 0 ≤ (w 21) ∧ (w 21) ≤ 6) (hx_pp : inR y1) (hx_v : inR y2) (hx_x : inR y3) : AMi l yX12_tell cX12_tell 4 .boolean 2 0 0 [rv (b 0), iv y1, iv y2, iv y3] (RW b w h) (QX12_tell b w h y1 y2 y3) := by
  have hk := (kX12_tell l (b 0) (o11 b w) (w 21) (b 20) (b 24) (h 20) (h 24) y1 y2 y3 rfl rfl rfl hpl hx_pp hx_v hx_x)
  refine AMi.gE (is := [0, 12, 14]) [1, 2, 3, 4, 5, 6, 7, 8, 9, 10, 11, 13, 15, 16, 17, 18, 19, 20, 21, 22, 23, 24, 25, 26, 27] 28 hk rfl rfl (by decide +kernel) (by decide +kernel) (fun z u hq => ?_)
  rcases hq with ⟨hz, hu, hq⟩ | ⟨hz, hu, hq⟩ | ⟨hz, hu, hq⟩ | ⟨hz, hu, hq⟩
  · subst hu
    exact ⟨rfl, RW b w h, rfl, rfl, RW_rest (by decide) rfl, Or.inl ⟨hz, rfl, hq⟩⟩
  · subst hu
    exact ⟨rfl, RW b w (uF h 20 (uZ (h 20) (5 * y1 + 3) y3)), rfl, rfl, RW_rest (by decide) rfl, Or.inr (Or.inl ⟨hz, rfl, hq⟩)⟩
  · subst hu
    exact ⟨rfl, RW b w (uF h 20 (uZ (h 20) (5 * y1 + 4) y3)), rfl, rfl, RW_rest (by decide) rfl, Or.inr (Or.inr (Or.inl ⟨hz, rfl, hq⟩))⟩
  · subst hu
    exact ⟨rfl, RW b w (uF h 24 (uZ (h 24) y1 y3)), rfl, rfl, RW_rest (by decide) rfl, Or.inr (Or.inr (Or.inr (⟨hz, rfl, hq⟩)))⟩
def QX12_mark (b : Nat → Nat) (w : Nat → Int) (h : Nat → Int → Int) (y1 y2 : Int) (z : Int) (u : EW) : Prop := (z = 0 ∧ u = RW b w h ∧ ((w 21) = 0 ∨ y1 < 0 ∨ 29 < y1 ∨ zAnd (zShr (w 26) y1) 1 = y2)) ∨ (z = 1 ∧ u = RW b (uF w 26 (zXor (w 26) (zShl 1 y1))) h ∧ (1 ≤ (w 21) ∧ 0 ≤ y1 ∧ y1 ≤ 29 ∧ zAnd (zShr (w 26) y1) 1 ≠ y2))
set_option maxRecDepth 100000 in
set_option maxHeartbeats 4000000 in
theorem qX12_mark (l : Launch) (b : Nat → Nat) (w : Nat → Int) (h : Nat → Int → Int) (y1 y2 : Int) (hpl : 0 ≤ (w 21) ∧ (w 21) ≤ 6) (hx_b : inR y1) (hv : y2 = 0 ∨ y2 = 1) : AMi l yX12_mark cX12_mark 3 .boolean 1 0 0 [rv (b 0), iv y1, iv y2] (RW b w h) (QX12_mark b w h y1 y2) := by
  have hk := (kX12_mark l (b 0) (o11 b w) (w 21) (w 26) y1 y2 rfl hpl hx_b hv)
  simp only [Po11_26, uF_self] at hk
  refine AMi.gE (is := [0]) [1, 2, 3, 4, 5, 6, 7, 8, 9, 10, 11, 12, 13, 14, 15, 16, 17, 18, 19, 20, 21, 22, 23, 24, 25, 26, 27] 28 hk rfl rfl (by decide +kernel) (by decide +kernel) (fun z u hq => ?_)
  rcases hq with ⟨hz, hu, hq⟩ | ⟨hz, hu, hq⟩
  · subst hu
    exact ⟨rfl, RW b w h, rfl, rfl, RW_rest (by decide) rfl, Or.inl ⟨hz, rfl, hq⟩⟩
  · subst hu
    exact ⟨rfl, RW b (uF w 26 (zXor (w 26) (zShl 1 y1))) h, rfl, rfl, RW_rest (by decide) rfl, Or.inr (⟨hz, rfl, hq⟩)⟩
def QX12_damp (b : Nat → Nat) (w : Nat → Int) (h : Nat → Int → Int) (ds : List LwS) (y1 : Int) (z : Int) (u : EW) : Prop := ∃ L2 : Int → Int, ∃ S2 : Int → Int, z = aDamp (w 27) (csA ds (w 27)) (w 22) (w 21) y1 ∧ u = RW b w (uF (uF h 15 L2) 16 S2)
set_option maxRecDepth 100000 in
set_option maxHeartbeats 4000000 in
theorem qX12_damp (l : Launch) (b : Nat → Nat) (w : Nat → Int) (h : Nat → Int → Int) (ds : List LwS) (y1 : Int) (hpm : (0 ≤ (w 21) ∧ (w 21) ≤ 6) ∧ 1 ≤ (w 22) ∧ (w 22) ≤ 99) (hho : (w 27) = -1 ∨ (0 ≤ (w 27) ∧ (w 27) ≤ 3 ∧ lawAt (h 6) (h 7) (h 9) (h 10) (h 11) (h 12) (w 27) (csA ds (w 27)))) (hx_d : inR y1) : AMi l yX12_damp cX12_damp 2 .int 6 0 0 [rv (b 0), iv y1] (RW b w h) (QX12_damp b w h ds y1) := by
  have hk := (kX12_damp l (b 0) (o11 b w) (w 21) (w 22) (w 27) (b 6) (b 7) (b 9) (b 10) (b 11) (b 12) (b 15) (b 16) (h 6) (h 7) (h 9) (h 10) (h 11) (h 12) (h 15) (h 16) (csA ds (w 27)) y1 rfl rfl rfl rfl rfl rfl rfl rfl rfl rfl rfl hpm hho hx_d)
  refine AMi.gE (is := [0, 2, 3, 5, 6, 7, 8, 9, 10]) [1, 4, 11, 12, 13, 14, 15, 16, 17, 18, 19, 20, 21, 22, 23, 24, 25, 26, 27] 28 hk rfl rfl (by decide +kernel) (by decide +kernel) (fun z u hq => ?_)
  obtain ⟨L2, S2, hz, hu⟩ := hq
  subst hu
  exact ⟨rfl, RW b w (uF (uF h 15 L2) 16 S2), rfl, rfl, RW_rest (by decide) rfl, ⟨L2, S2, hz, rfl⟩⟩
def QX12_day (b : Nat → Nat) (w : Nat → Int) (h : Nat → Int → Int) (ds : List LwS) (y1 : Int) (z : Int) (u : EW) : Prop := (z = -1 ∧ u = RW b w h ∧ ((w 21) = 0 ∨ y1 < -1 ∨ (w 21) ≤ y1 ∨ 999 < (w 25))) ∨ (∃ B2 : Int → Int, ∃ K2 : Int → Int, ∃ ac2 : Int, ∃ L2 : Int → Int, ∃ S2 : Int → Int, z = (w 25) + 1 ∧ u = RW b (uF (uF w 25 ((w 25) + 1)) 32 ac2) (uF (uF (uF (uF h 15 L2) 16 S2) 23 B2) 31 K2) ∧ (1 ≤ (w 21) ∧ -1 ≤ y1 ∧ y1 < (w 21) ∧ (w 25) ≤ 999) ∧ B2 = (paF (c5 (h 20) 2) (c5 (h 20) 1) (w 22) y1 (aDy (w 27) (csA ds (w 27)) (w 22) (w 21) (w 25)) (w 21) (h 23)) ∧ (((w 32) < 60 ∧ ac2 = (w 32) + 1) ∨ ((w 32) = 60 ∧ ac2 = 60)) ∧ (∀ x, 0 ≤ x → x < 6 → K2 (6 * (ac2 - 1) + x) = (h 23) x) ∧ (∀ x, 0 ≤ x → x < 6 * (ac2 - 1) → K2 x = (h 31) (x + 6 * ((w 32) + 1 - ac2))))
set_option maxRecDepth 100000 in
set_option maxHeartbeats 4000000 in
theorem qX12_day (l : Launch) (b : Nat → Nat) (w : Nat → Int) (h : Nat → Int → Int) (ds : List LwS) (y1 : Int) (hpm : (0 ≤ (w 21) ∧ (w 21) ≤ 6) ∧ 1 ≤ (w 22) ∧ (w 22) ≤ 99) (hho : (w 27) = -1 ∨ (0 ≤ (w 27) ∧ (w 27) ≤ 3 ∧ lawAt (h 6) (h 7) (h 9) (h 10) (h 11) (h 12) (w 27) (csA ds (w 27)))) (hod : okDy (w 21) (w 22) (c5 (h 20) 2) (c5 (h 20) 1)) (hB1 : ∀ p, 0 ≤ p → p < (w 21) → 1 ≤ (h 23) p ∧ (h 23) p ≤ 199) (hdy : 0 ≤ (w 25) ∧ (w 25) ≤ 1000) (hac : 0 ≤ (w 32) ∧ (w 32) ≤ 60) (hx_a : inR y1) : AMi l yX12_day cX12_day 3 .int 6 0 0 [rv (b 0), iv y1] (RW b w h) (QX12_day b w h ds y1) := by
  have hk := (kX12_day l (b 0) (o11 b w) (w 21) (w 22) (w 27) (b 6) (b 7) (b 9) (b 10) (b 11) (b 12) (b 15) (b 16) (h 6) (h 7) (h 9) (h 10) (h 11) (h 12) (h 15) (h 16) (csA ds (w 27)) (b 20) (b 23) (h 20) (h 23) (b 31) (h 31) (w 25) (w 32) y1 rfl rfl rfl rfl rfl rfl rfl rfl rfl rfl rfl rfl rfl rfl hpm hho hod hB1 hdy hac hx_a)
  simp only [Po11_25, Po11_32, uF_self] at hk
  refine AMi.gE (is := [0, 12, 13, 15, 2, 3, 5, 6, 7, 8, 9, 10]) [1, 4, 11, 14, 16, 17, 18, 19, 20, 21, 22, 23, 24, 25, 26, 27] 28 hk rfl rfl (by decide +kernel) (by decide +kernel) (fun z u hq => ?_)
  rcases hq with ⟨hz, hu, hq⟩ | ⟨B2, K2, ac2, L2, S2, hz, hu, hq, hB2, hac2, hK1, hK2⟩
  · subst hu
    exact ⟨rfl, RW b w h, rfl, rfl, RW_rest (by decide) rfl, Or.inl ⟨hz, rfl, hq⟩⟩
  · subst hu
    exact ⟨rfl, RW b (uF (uF w 25 ((w 25) + 1)) 32 ac2) (uF (uF (uF (uF h 15 L2) 16 S2) 23 B2) 31 K2), rfl, rfl, RW_rest (by decide) rfl, Or.inr (⟨B2, K2, ac2, L2, S2, hz, rfl, hq, hB2, hac2, hK1, hK2⟩)⟩
def QX12_undo (b : Nat → Nat) (w : Nat → Int) (h : Nat → Int → Int) (z : Int) (u : EW) : Prop := (z = -1 ∧ u = RW b w h ∧ (w 32) = 0) ∨ (∃ B2 : Int → Int, z = (w 25) - 1 ∧ u = RW b (uF (uF w 25 ((w 25) - 1)) 32 ((w 32) - 1)) (uF h 23 B2) ∧ 1 ≤ (w 32) ∧ (∀ x, 0 ≤ x → x < 6 → B2 x = (h 31) (6 * ((w 32) - 1) + x)))
set_option maxRecDepth 100000 in
set_option maxHeartbeats 4000000 in
theorem qX12_undo (l : Launch) (b : Nat → Nat) (w : Nat → Int) (h : Nat → Int → Int) (hac : 0 ≤ (w 32) ∧ (w 32) ≤ 60) : AMi l yX12_undo cX12_undo 2 .int 0 0 0 [rv (b 0)] (RW b w h) (QX12_undo b w h) := by
  have hk := (kX12_undo l (b 0) (o11 b w) (b 23) (h 23) (w 25) (w 32) (b 31) (h 31) rfl rfl hac)
  simp only [Po11_25, Po11_32, uF_self] at hk
  refine AMi.gE (is := [0, 13, 15]) [1, 2, 3, 4, 5, 6, 7, 8, 9, 10, 11, 12, 14, 16, 17, 18, 19, 20, 21, 22, 23, 24, 25, 26, 27] 28 hk rfl rfl (by decide +kernel) (by decide +kernel) (fun z u hq => ?_)
  rcases hq with ⟨hz, hu, hq⟩ | ⟨B2, hz, hu, hq, hB2⟩
  · subst hu
    exact ⟨rfl, RW b w h, rfl, rfl, RW_rest (by decide) rfl, Or.inl ⟨hz, rfl, hq⟩⟩
  · subst hu
    exact ⟨rfl, RW b (uF (uF w 25 ((w 25) - 1)) 32 ((w 32) - 1)) (uF h 23 B2), rfl, rfl, RW_rest (by decide) rfl, Or.inr (⟨B2, hz, rfl, hq, hB2⟩)⟩
def QX12_time (b : Nat → Nat) (w : Nat → Int) (h : Nat → Int → Int) (y1 y2 y3 : Int) (z : Int) (u : EW) : Prop := ∃ A2 : Int → Int, ∃ M2 : Int → Int, ∃ W2 : Int → Int, z = aTime (w 21) (w 28) (w 29) (w 26) (c5 (h 20) 3) (c5 (h 20) 4) (h 23) (h 24) y1 y2 y3 ∧ u = RW b w (uF (uF (uF h 33 A2) 34 M2) 35 W2)
set_option maxRecDepth 100000 in
set_option maxHeartbeats 4000000 in
theorem qX12_time (l : Launch) (b : Nat → Nat) (w : Nat → Int) (h : Nat → Int → Int) (y1 y2 y3 : Int) (hz : okZ (w 21) (w 28) (w 29) (c5 (h 20) 3) (c5 (h 20) 4) (h 23) (h 24)) (hx_pp : inR y1) (hx_b : inR y2) (hx_v : inR y3) : AMi l yX12_time cX12_time 4 .int 4 0 0 [rv (b 0), iv y1, iv y2, iv y3] (RW b w h) (QX12_time b w h y1 y2 y3) := by
  have hk := (kX12_time l (b 0) (o11 b w) (w 21) (w 28) (w 29) (w 26) (b 20) (b 23) (b 24) (b 33) (b 34) (b 35) (h 20) (h 23) (h 24) (h 33) (h 34) (h 35) y1 y2 y3 rfl rfl rfl rfl rfl rfl rfl rfl rfl rfl hz hx_pp hx_b hx_v)
  refine AMi.gE (is := [0, 12, 13, 14, 16, 17, 18]) [1, 2, 3, 4, 5, 6, 7, 8, 9, 10, 11, 15, 19, 20, 21, 22, 23, 24, 25, 26, 27] 28 hk rfl rfl (by decide +kernel) (by decide +kernel) (fun z u hq => ?_)
  obtain ⟨A2, M2, W2, hz, hu⟩ := hq
  subst hu
  exact ⟨rfl, RW b w (uF (uF (uF h 33 A2) 34 M2) 35 W2), rfl, rfl, RW_rest (by decide) rfl, ⟨A2, M2, W2, hz, rfl⟩⟩
def QX12_spread (b : Nat → Nat) (w : Nat → Int) (h : Nat → Int → Int) (y1 : Int) (z : Int) (u : EW) : Prop := ∃ A2 : Int → Int, ∃ M2 : Int → Int, ∃ W2 : Int → Int, z = aSpread (w 21) (w 28) (w 29) (w 26) (c5 (h 20) 3) (c5 (h 20) 4) (h 23) (h 24) y1 ∧ u = RW b w (uF (uF (uF h 33 A2) 34 M2) 35 W2)
set_option maxRecDepth 100000 in
set_option maxHeartbeats 4000000 in
theorem qX12_spread (l : Launch) (b : Nat → Nat) (w : Nat → Int) (h : Nat → Int → Int) (y1 : Int) (hz : okZ (w 21) (w 28) (w 29) (c5 (h 20) 3) (c5 (h 20) 4) (h 23) (h 24)) (hx_b : inR y1) : AMi l yX12_spread cX12_spread 2 .int 4 0 0 [rv (b 0), iv y1] (RW b w h) (QX12_spread b w h y1) := by
  have hk := (kX12_spread l (b 0) (o11 b w) (w 21) (w 28) (w 29) (w 26) (b 20) (b 23) (b 24) (b 33) (b 34) (b 35) (h 20) (h 23) (h 24) (h 33) (h 34) (h 35) y1 rfl rfl rfl rfl rfl rfl rfl rfl rfl rfl hz hx_b)
  refine AMi.gE (is := [0, 12, 13, 14, 16, 17, 18]) [1, 2, 3, 4, 5, 6, 7, 8, 9, 10, 11, 15, 19, 20, 21, 22, 23, 24, 25, 26, 27] 28 hk rfl rfl (by decide +kernel) (by decide +kernel) (fun z u hq => ?_)
  obtain ⟨A2, M2, W2, hz, hu⟩ := hq
  subst hu
  exact ⟨rfl, RW b w (uF (uF (uF h 33 A2) 34 M2) 35 W2), rfl, rfl, RW_rest (by decide) rfl, ⟨A2, M2, W2, hz, rfl⟩⟩
def QX12_worst (b : Nat → Nat) (w : Nat → Int) (h : Nat → Int → Int) (y1 : Int) (z : Int) (u : EW) : Prop := ∃ A2 : Int → Int, ∃ M2 : Int → Int, ∃ W2 : Int → Int, z = aWorst (w 21) (w 28) (w 29) (w 26) (c5 (h 20) 3) (c5 (h 20) 4) (h 23) (h 24) y1 ∧ u = RW b w (uF (uF (uF h 33 A2) 34 M2) 35 W2)
set_option maxRecDepth 100000 in
set_option maxHeartbeats 4000000 in
theorem qX12_worst (l : Launch) (b : Nat → Nat) (w : Nat → Int) (h : Nat → Int → Int) (y1 : Int) (hz : okZ (w 21) (w 28) (w 29) (c5 (h 20) 3) (c5 (h 20) 4) (h 23) (h 24)) (hx_v : inR y1) : AMi l yX12_worst cX12_worst 2 .int 6 0 0 [rv (b 0), iv y1] (RW b w h) (QX12_worst b w h y1) := by
  have hk := (kX12_worst l (b 0) (o11 b w) (w 21) (w 28) (w 29) (w 26) (b 20) (b 23) (b 24) (b 33) (b 34) (b 35) (h 20) (h 23) (h 24) (h 33) (h 34) (h 35) y1 rfl rfl rfl rfl rfl rfl rfl rfl rfl rfl hz hx_v)
  refine AMi.gE (is := [0, 12, 13, 14, 16, 17, 18]) [1, 2, 3, 4, 5, 6, 7, 8, 9, 10, 11, 15, 19, 20, 21, 22, 23, 24, 25, 26, 27] 28 hk rfl rfl (by decide +kernel) (by decide +kernel) (fun z u hq => ?_)
  obtain ⟨A2, M2, W2, hz, hu⟩ := hq
  subst hu
  exact ⟨rfl, RW b w (uF (uF (uF h 33 A2) 34 M2) 35 W2), rfl, rfl, RW_rest (by decide) rfl, ⟨A2, M2, W2, hz, rfl⟩⟩
def QX12_parts (b : Nat → Nat) (w : Nat → Int) (h : Nat → Int → Int) (z : Int) (u : EW) : Prop := ∃ A2 : Int → Int, ∃ M2 : Int → Int, ∃ W2 : Int → Int, z = aParts (w 21) (w 28) (w 29) (w 26) (c5 (h 20) 3) (c5 (h 20) 4) (h 23) (h 24) (w 30) ∧ u = RW b w (uF (uF (uF h 33 A2) 34 M2) 35 W2)
set_option maxRecDepth 100000 in
set_option maxHeartbeats 4000000 in
theorem qX12_parts (l : Launch) (b : Nat → Nat) (w : Nat → Int) (h : Nat → Int → Int) (hz : okZ (w 21) (w 28) (w 29) (c5 (h 20) 3) (c5 (h 20) 4) (h 23) (h 24)) (hlim : 0 ≤ (w 30) ∧ (w 30) ≤ 999) : AMi l yX12_parts cX12_parts 2 .int 4 0 0 [rv (b 0)] (RW b w h) (QX12_parts b w h) := by
  have hk := (kX12_parts l (b 0) (o11 b w) (w 21) (w 28) (w 29) (w 26) (b 20) (b 23) (b 24) (b 33) (b 34) (b 35) (h 20) (h 23) (h 24) (h 33) (h 34) (h 35) (w 30) rfl rfl rfl rfl rfl rfl rfl rfl rfl rfl rfl hz hlim)
  refine AMi.gE (is := [0, 12, 13, 14, 16, 17, 18]) [1, 2, 3, 4, 5, 6, 7, 8, 9, 10, 11, 15, 19, 20, 21, 22, 23, 24, 25, 26, 27] 28 hk rfl rfl (by decide +kernel) (by decide +kernel) (fun z u hq => ?_)
  obtain ⟨A2, M2, W2, hz, hu⟩ := hq
  subst hu
  exact ⟨rfl, RW b w (uF (uF (uF h 33 A2) 34 M2) 35 W2), rfl, rfl, RW_rest (by decide) rfl, ⟨A2, M2, W2, hz, rfl⟩⟩
def QX12_last (b : Nat → Nat) (w : Nat → Int) (h : Nat → Int → Int) (y1 : Int) (z : Int) (u : EW) : Prop := ∃ A2 : Int → Int, ∃ M2 : Int → Int, ∃ W2 : Int → Int, z = aLast (w 21) (w 28) (w 29) (w 26) (c5 (h 20) 3) (c5 (h 20) 4) (h 23) (h 24) y1 ∧ u = RW b w (uF (uF (uF h 33 A2) 34 M2) 35 W2)
set_option maxRecDepth 100000 in
set_option maxHeartbeats 4000000 in
theorem qX12_last (l : Launch) (b : Nat → Nat) (w : Nat → Int) (h : Nat → Int → Int) (y1 : Int) (hz : okZ (w 21) (w 28) (w 29) (c5 (h 20) 3) (c5 (h 20) 4) (h 23) (h 24)) (hx_b : inR y1) : AMi l yX12_last cX12_last 2 .int 4 0 0 [rv (b 0), iv y1] (RW b w h) (QX12_last b w h y1) := by
  have hk := (kX12_last l (b 0) (o11 b w) (w 21) (w 28) (w 29) (w 26) (b 20) (b 23) (b 24) (b 33) (b 34) (b 35) (h 20) (h 23) (h 24) (h 33) (h 34) (h 35) y1 rfl rfl rfl rfl rfl rfl rfl rfl rfl rfl hz hx_b)
  refine AMi.gE (is := [0, 12, 13, 14, 16, 17, 18]) [1, 2, 3, 4, 5, 6, 7, 8, 9, 10, 11, 15, 19, 20, 21, 22, 23, 24, 25, 26, 27] 28 hk rfl rfl (by decide +kernel) (by decide +kernel) (fun z u hq => ?_)
  obtain ⟨A2, M2, W2, hz, hu⟩ := hq
  subst hu
  exact ⟨rfl, RW b w (uF (uF (uF h 33 A2) 34 M2) 35 W2), rfl, rfl, RW_rest (by decide) rfl, ⟨A2, M2, W2, hz, rfl⟩⟩
def QX12_settle (b : Nat → Nat) (w : Nat → Int) (h : Nat → Int → Int) (y1 : Int) (z : Int) (u : EW) : Prop := ∃ z9 : Int, ∃ A2 : Int → Int, z = z9 ∧ u = RW b w (uF h 33 A2) ∧ rSettle (w 21) (w 29) (c5 (h 20) 3) (c5 (h 20) 4) (h 23) y1 z9
set_option maxRecDepth 100000 in
set_option maxHeartbeats 4000000 in
theorem qX12_settle (l : Launch) (b : Nat → Nat) (w : Nat → Int) (h : Nat → Int → Int) (y1 : Int) (hz : okZ (w 21) (w 28) (w 29) (c5 (h 20) 3) (c5 (h 20) 4) (h 23) (h 24)) (hv : inR y1) : AMi l yX12_settle cX12_settle 4 .int 3 0 0 [rv (b 0), iv y1] (RW b w h) (QX12_settle b w h y1) := by
  have hk := (kX12_settle l (b 0) (o11 b w) (w 21) (w 28) (w 29) (b 20) (b 23) (b 33) (h 20) (h 23) (h 24) (h 33) y1 rfl rfl rfl rfl rfl hz hv)
  refine AMi.gE (is := [0, 12, 13, 16]) [1, 2, 3, 4, 5, 6, 7, 8, 9, 10, 11, 14, 15, 17, 18, 19, 20, 21, 22, 23, 24, 25, 26, 27] 28 hk rfl rfl (by decide +kernel) (by decide +kernel) (fun z u hq => ?_)
  obtain ⟨z9, A2, hz, hu, hs⟩ := hq
  subst hu
  exact ⟨rfl, RW b w (uF h 33 A2), rfl, rfl, RW_rest (by decide) rfl, ⟨z9, A2, hz, rfl, hs⟩⟩
def QX12_ring (b : Nat → Nat) (w : Nat → Int) (h : Nat → Int → Int) (y1 : Int) (z : Int) (u : EW) : Prop := z = aRingR (w 21) (c5 (h 20) 3) y1 ∧ u = RW b w h
set_option maxRecDepth 100000 in
set_option maxHeartbeats 4000000 in
theorem qX12_ring (l : Launch) (b : Nat → Nat) (w : Nat → Int) (h : Nat → Int → Int) (y1 : Int) (hz : okZ (w 21) (w 28) (w 29) (c5 (h 20) 3) (c5 (h 20) 4) (h 23) (h 24)) (hx_pp : inR y1) : AMi l yX12_ring cX12_ring 4 .int 2 0 0 [rv (b 0), iv y1] (RW b w h) (QX12_ring b w h y1) := by
  have hk := (kX12_ring l (b 0) (o11 b w) (w 21) (w 28) (w 29) (b 20) (h 20) (h 23) (h 24) y1 rfl rfl hz hx_pp)
  refine AMi.gE (is := [0, 12]) [1, 2, 3, 4, 5, 6, 7, 8, 9, 10, 11, 13, 14, 15, 16, 17, 18, 19, 20, 21, 22, 23, 24, 25, 26, 27] 28 hk rfl rfl (by decide +kernel) (by decide +kernel) (fun z u hq => ?_)
  obtain ⟨hz, hu⟩ := hq
  subst hu
  exact ⟨rfl, RW b w h, rfl, rfl, RW_rest (by decide) rfl, ⟨hz, rfl⟩⟩
def QX12_head (b : Nat → Nat) (w : Nat → Int) (h : Nat → Int → Int) (y1 : Int) (z : Int) (u : EW) : Prop := z = aHeadR (w 21) (c5 (h 20) 3) y1 ∧ u = RW b w h
set_option maxRecDepth 100000 in
set_option maxHeartbeats 4000000 in
theorem qX12_head (l : Launch) (b : Nat → Nat) (w : Nat → Int) (h : Nat → Int → Int) (y1 : Int) (hz : okZ (w 21) (w 28) (w 29) (c5 (h 20) 3) (c5 (h 20) 4) (h 23) (h 24)) (hx_pp : inR y1) : AMi l yX12_head cX12_head 4 .int 2 0 0 [rv (b 0), iv y1] (RW b w h) (QX12_head b w h y1) := by
  have hk := (kX12_head l (b 0) (o11 b w) (w 21) (w 28) (w 29) (b 20) (h 20) (h 23) (h 24) y1 rfl rfl hz hx_pp)
  refine AMi.gE (is := [0, 12]) [1, 2, 3, 4, 5, 6, 7, 8, 9, 10, 11, 13, 14, 15, 16, 17, 18, 19, 20, 21, 22, 23, 24, 25, 26, 27] 28 hk rfl rfl (by decide +kernel) (by decide +kernel) (fun z u hq => ?_)
  obtain ⟨hz, hu⟩ := hq
  subst hu
  exact ⟨rfl, RW b w h, rfl, rfl, RW_rest (by decide) rfl, ⟨hz, rfl⟩⟩
def QX12_week (b : Nat → Nat) (w : Nat → Int) (h : Nat → Int → Int) (ds : List LwS) (y1 : Int) (z : Int) (u : EW) : Prop := ∃ r3 : Int, ∃ l3 : Int, ∃ A2 : Int → Int, ∃ M2 : Int → Int, ∃ W2 : Int → Int, ∃ Wb2 : Int → Int, ∃ Wd2 : Int → Int, ∃ L2 : Int → Int, ∃ S2 : Int → Int, z = aWeekR (w 21) (w 28) (w 29) (w 26) (w 22) (w 25) (c5 (h 20) 3) (c5 (h 20) 4) (h 23) (h 24) (c5 (h 20) 2) (c5 (h 20) 1) (fun j => aDy (w 27) (csA ds (w 27)) (w 22) (w 21) ((w 25) + j)) y1 (w 39) ∧ u = RW b (uF (uF w 38 r3) 39 l3) (uF (uF (uF (uF (uF (uF (uF h 15 L2) 16 S2) 33 A2) 34 M2) 35 W2) 36 Wb2) 37 Wd2)
set_option maxRecDepth 100000 in
set_option maxHeartbeats 4000000 in
theorem qX12_week (l : Launch) (b : Nat → Nat) (w : Nat → Int) (h : Nat → Int → Int) (ds : List LwS) (y1 : Int) (hz : okZ (w 21) (w 28) (w 29) (c5 (h 20) 3) (c5 (h 20) 4) (h 23) (h 24)) (hx_v : inR y1) (hpm : (0 ≤ (w 21) ∧ (w 21) ≤ 6) ∧ 1 ≤ (w 22) ∧ (w 22) ≤ 99) (hho : (w 27) = -1 ∨ (0 ≤ (w 27) ∧ (w 27) ≤ 3 ∧ lawAt (h 6) (h 7) (h 9) (h 10) (h 11) (h 12) (w 27) (csA ds (w 27)))) (hod : okDy (w 21) (w 22) (c5 (h 20) 2) (c5 (h 20) 1)) (hdy : 0 ≤ (w 25) ∧ (w 25) ≤ 1000) : AMi l yX12_week cX12_week 3 .int 13 0 0 [rv (b 0), iv y1] (RW b w h) (QX12_week b w h ds y1) := by
  have hk := (kX12_week l (b 0) (o11 b w) (w 21) (w 28) (w 29) (w 26) (b 20) (b 23) (b 24) (b 33) (b 34) (b 35) (h 20) (h 23) (h 24) (h 33) (h 34) (h 35) y1 (w 22) (w 27) (w 25) (b 6) (b 7) (b 9) (b 10) (b 11) (b 12) (b 15) (b 16) (h 6) (h 7) (h 9) (h 10) (h 11) (h 12) (h 15) (h 16) (csA ds (w 27)) (b 36) (h 36) (b 37) (h 37) (w 38) (w 39) rfl rfl rfl rfl rfl rfl rfl rfl rfl rfl rfl rfl rfl rfl rfl rfl rfl rfl rfl rfl rfl rfl rfl hz hx_v hpm hho hod hdy)
  simp only [Po11_38, Po11_39, uF_self] at hk
  refine AMi.gE (is := [0, 12, 13, 14, 16, 17, 18, 19, 20, 2, 3, 5, 6, 7, 8, 9, 10]) [1, 4, 11, 15, 21, 22, 23, 24, 25, 26, 27] 28 hk rfl rfl (by decide +kernel) (by decide +kernel) (fun z u hq => ?_)
  obtain ⟨r3, l3, A2, M2, W2, Wb2, Wd2, L2, S2, hz, hu⟩ := hq
  subst hu
  exact ⟨rfl, RW b (uF (uF w 38 r3) 39 l3) (uF (uF (uF (uF (uF (uF (uF h 15 L2) 16 S2) 33 A2) 34 M2) 35 W2) 36 Wb2) 37 Wd2), rfl, rfl, RW_rest (by decide) rfl, ⟨r3, l3, A2, M2, W2, Wb2, Wd2, L2, S2, hz, rfl⟩⟩
def QX12_leader (b : Nat → Nat) (w : Nat → Int) (h : Nat → Int → Int) (y1 y2 : Int) (z : Int) (u : EW) : Prop := ∃ A2 : Int → Int, ∃ M2 : Int → Int, ∃ W2 : Int → Int, z = aLeader (w 21) (w 28) (w 29) (w 26) (c5 (h 20) 3) (c5 (h 20) 4) (h 23) (h 24) y1 y2 ∧ u = RW b w (uF (uF (uF h 33 A2) 34 M2) 35 W2)
set_option maxRecDepth 100000 in
set_option maxHeartbeats 4000000 in
theorem qX12_leader (l : Launch) (b : Nat → Nat) (w : Nat → Int) (h : Nat → Int → Int) (y1 y2 : Int) (hz : okZ (w 21) (w 28) (w 29) (c5 (h 20) 3) (c5 (h 20) 4) (h 23) (h 24)) (hx_pp : inR y1) (hx_v : inR y2) : AMi l yX12_leader cX12_leader 8 .int 6 0 0 [rv (b 0), iv y1, iv y2] (RW b w h) (QX12_leader b w h y1 y2) := by
  have hk := (kX12_leader l (b 0) (o11 b w) (w 21) (w 28) (w 29) (w 26) (b 20) (b 23) (b 24) (b 33) (b 34) (b 35) (h 20) (h 23) (h 24) (h 33) (h 34) (h 35) y1 y2 rfl rfl rfl rfl rfl rfl rfl rfl rfl rfl hz hx_pp hx_v)
  refine AMi.gE (is := [0, 12, 13, 14, 16, 17, 18]) [1, 2, 3, 4, 5, 6, 7, 8, 9, 10, 11, 15, 19, 20, 21, 22, 23, 24, 25, 26, 27] 28 hk rfl rfl (by decide +kernel) (by decide +kernel) (fun z u hq => ?_)
  obtain ⟨A2, M2, W2, hz, hu⟩ := hq
  subst hu
  exact ⟨rfl, RW b w (uF (uF (uF h 33 A2) 34 M2) 35 W2), rfl, rfl, RW_rest (by decide) rfl, ⟨A2, M2, W2, hz, rfl⟩⟩
def QX12_marks (b : Nat → Nat) (w : Nat → Int) (h : Nat → Int → Int) (y1 : Int) (z : Int) (u : EW) : Prop := ∃ z9 : Int, ∃ A2 : Int → Int, ∃ F2 : Int → Int, ∃ B2 : Int → Int, ∃ S2 : Int → Int, z = z9 ∧ u = RW b w (uF (uF (uF (uF h 33 A2) 40 F2) 41 B2) 42 S2)
set_option maxRecDepth 100000 in
set_option maxHeartbeats 4000000 in
theorem qX12_marks (l : Launch) (b : Nat → Nat) (w : Nat → Int) (h : Nat → Int → Int) (y1 : Int) (hz : okZ (w 21) (w 28) (w 29) (c5 (h 20) 3) (c5 (h 20) 4) (h 23) (h 24)) (hlim : 0 ≤ (w 30) ∧ (w 30) ≤ 999) (hx_v : inR y1) : AMi l yX12_marks cX12_marks 3 .int 3 0 0 [rv (b 0), iv y1] (RW b w h) (QX12_marks b w h y1) := by
  have hk := (kX12_marks l (b 0) (o11 b w) (w 21) (w 28) (w 29) (w 26) (b 20) (b 23) (b 24) (b 33) (b 34) (b 35) (h 20) (h 23) (h 24) (h 33) (w 30) (b 40) (b 41) (b 42) (h 40) (h 41) (h 42) y1 rfl rfl rfl rfl rfl rfl rfl rfl rfl rfl rfl rfl rfl rfl hz hlim hx_v)
  refine AMi.gE (is := [0, 12, 13, 14, 16, 21, 22, 23]) [1, 2, 3, 4, 5, 6, 7, 8, 9, 10, 11, 15, 17, 18, 19, 20, 24, 25, 26, 27] 28 hk rfl rfl (by decide +kernel) (by decide +kernel) (fun z u hq => ?_)
  obtain ⟨z9, A2, F2, B2, S2, hz, hu⟩ := hq
  subst hu
  exact ⟨rfl, RW b w (uF (uF (uF (uF h 33 A2) 40 F2) 41 B2) 42 S2), rfl, rfl, RW_rest (by decide) rfl, ⟨z9, A2, F2, B2, S2, hz, rfl⟩⟩
def QX12_odds (b : Nat → Nat) (w : Nat → Int) (h : Nat → Int → Int) (y1 y2 : Int) (z : Int) (u : EW) : Prop := ∃ A2 : Int → Int, ∃ M2 : Int → Int, ∃ W2 : Int → Int, ∃ Wb2 : Int → Int, z = aOddsR (w 21) (w 28) (w 29) (w 26) (w 22) (c5 (h 20) 3) (c5 (h 20) 4) (h 23) (h 24) (c5 (h 20) 2) (c5 (h 20) 1) y1 y2 ∧ u = RW b w (uF (uF (uF (uF h 33 A2) 34 M2) 35 W2) 36 Wb2)
set_option maxRecDepth 100000 in
set_option maxHeartbeats 4000000 in
theorem qX12_odds (l : Launch) (b : Nat → Nat) (w : Nat → Int) (h : Nat → Int → Int) (y1 y2 : Int) (hz : okZ (w 21) (w 28) (w 29) (c5 (h 20) 3) (c5 (h 20) 4) (h 23) (h 24)) (hx_pp : inR y1) (hx_k9 : inR y2) (hod : okDy (w 21) (w 22) (c5 (h 20) 2) (c5 (h 20) 1)) : AMi l yX12_odds cX12_odds 3 .int 14 0 0 [rv (b 0), iv y1, iv y2] (RW b w h) (QX12_odds b w h y1 y2) := by
  have hk := (kX12_odds l (b 0) (o11 b w) (w 21) (w 28) (w 29) (w 26) (b 20) (b 23) (b 24) (b 33) (b 34) (b 35) (h 20) (h 23) (h 24) (h 33) (h 34) (h 35) y1 y2 (w 22) (b 36) (h 36) rfl rfl rfl rfl rfl rfl rfl rfl rfl rfl rfl rfl hz hx_pp hx_k9 hod)
  refine AMi.gE (is := [0, 12, 13, 14, 16, 17, 18, 19]) [1, 2, 3, 4, 5, 6, 7, 8, 9, 10, 11, 15, 20, 21, 22, 23, 24, 25, 26, 27] 28 hk rfl rfl (by decide +kernel) (by decide +kernel) (fun z u hq => ?_)
  obtain ⟨A2, M2, W2, Wb2, hz, hu⟩ := hq
  subst hu
  exact ⟨rfl, RW b w (uF (uF (uF (uF h 33 A2) 34 M2) 35 W2) 36 Wb2), rfl, rfl, RW_rest (by decide) rfl, ⟨A2, M2, W2, Wb2, hz, rfl⟩⟩
def QX12_paid (b : Nat → Nat) (w : Nat → Int) (h : Nat → Int → Int) (y1 : Int) (z : Int) (u : EW) : Prop := ∃ z9 : Int, ∃ A2 : Int → Int, ∃ M2 : Int → Int, ∃ W2 : Int → Int, z = z9 ∧ u = RW b w (uF (uF (uF h 33 A2) 34 M2) 35 W2) ∧ rPaid (w 21) (w 28) (w 29) (w 26) (c5 (h 20) 3) (c5 (h 20) 4) (h 23) (h 24) y1 z9
set_option maxRecDepth 100000 in
set_option maxHeartbeats 4000000 in
theorem qX12_paid (l : Launch) (b : Nat → Nat) (w : Nat → Int) (h : Nat → Int → Int) (y1 : Int) (hz : okZ (w 21) (w 28) (w 29) (c5 (h 20) 3) (c5 (h 20) 4) (h 23) (h 24)) (hx_pp : inR y1) : AMi l yX12_paid cX12_paid 5 .int 5 0 0 [rv (b 0), iv y1] (RW b w h) (QX12_paid b w h y1) := by
  have hk := (kX12_paid l (b 0) (o11 b w) (w 21) (w 28) (w 29) (w 26) (b 20) (b 23) (b 24) (b 33) (b 34) (b 35) (h 20) (h 23) (h 24) (h 33) (h 34) (h 35) y1 rfl rfl rfl rfl rfl rfl rfl rfl rfl rfl hz hx_pp)
  refine AMi.gE (is := [0, 12, 13, 14, 16, 17, 18]) [1, 2, 3, 4, 5, 6, 7, 8, 9, 10, 11, 15, 19, 20, 21, 22, 23, 24, 25, 26, 27] 28 hk rfl rfl (by decide +kernel) (by decide +kernel) (fun z u hq => ?_)
  obtain ⟨z9, A2, M2, W2, hz, hu, hs⟩ := hq
  subst hu
  exact ⟨rfl, RW b w (uF (uF (uF h 33 A2) 34 M2) 35 W2), rfl, rfl, RW_rest (by decide) rfl, ⟨z9, A2, M2, W2, hz, rfl, hs⟩⟩
def QX12_roll (b : Nat → Nat) (w : Nat → Int) (h : Nat → Int → Int) (y1 y2 y3 : Int) (z : Int) (u : EW) : Prop := (z = -1 ∧ u = RW b w h ∧ (¬ ((0 ≤ y1 ∧ y1 < (w 21)) ∧ (0 ≤ y2 ∧ y2 ≤ 29) ∧ (0 ≤ y3 ∧ y3 ≤ 9999) ∧ (w 46) < 20))) ∨ (z = (w 46) + 1 ∧ u = RW b (uF w 46 ((w 46) + 1)) (uF (uF (uF h 43 (uZ (h 43) (w 46) y1)) 44 (uZ (h 44) (w 46) y2)) 45 (uZ (h 45) (w 46) y3)) ∧ ((0 ≤ y1 ∧ y1 < (w 21)) ∧ (0 ≤ y2 ∧ y2 ≤ 29) ∧ (0 ≤ y3 ∧ y3 ≤ 9999) ∧ (w 46) < 20))
set_option maxRecDepth 100000 in
set_option maxHeartbeats 4000000 in
theorem qX12_roll (l : Launch) (b : Nat → Nat) (w : Nat → Int) (h : Nat → Int → Int) (y1 y2 y3 : Int) (hpl : 0 ≤ (w 21) ∧ (w 21) ≤ 6) (hrl : 0 ≤ (w 46) ∧ (w 46) ≤ 20) (hx_pp : inR y1) (hx_b : inR y2) (hx_t : inR y3) : AMi l yX12_roll cX12_roll 4 .int 2 0 0 [rv (b 0), iv y1, iv y2, iv y3] (RW b w h) (QX12_roll b w h y1 y2 y3) := by
  have hk := (kX12_roll l (b 0) (o11 b w) (w 21) (w 46) (b 43) (b 44) (b 45) (h 43) (h 44) (h 45) y1 y2 y3 rfl rfl rfl rfl hpl hrl hx_pp hx_b hx_t)
  simp only [Po11_46, uF_self] at hk
  refine AMi.gE (is := [0, 24, 25, 26]) [1, 2, 3, 4, 5, 6, 7, 8, 9, 10, 11, 12, 13, 14, 15, 16, 17, 18, 19, 20, 21, 22, 23, 27] 28 hk rfl rfl (by decide +kernel) (by decide +kernel) (fun z u hq => ?_)
  rcases hq with ⟨hz, hu, hq⟩ | ⟨hz, hu, hq⟩
  · subst hu
    exact ⟨rfl, RW b w h, rfl, rfl, RW_rest (by decide) rfl, Or.inl ⟨hz, rfl, hq⟩⟩
  · subst hu
    exact ⟨rfl, RW b (uF w 46 ((w 46) + 1)) (uF (uF (uF h 43 (uZ (h 43) (w 46) y1)) 44 (uZ (h 44) (w 46) y2)) 45 (uZ (h 45) (w 46) y3)), rfl, rfl, RW_rest (by decide) rfl, Or.inr (⟨hz, rfl, hq⟩)⟩
def QX12_fits (b : Nat → Nat) (w : Nat → Int) (h : Nat → Int → Int) (y1 : Int) (z : Int) (u : EW) : Prop := ∃ A2 : Int → Int, ∃ M2 : Int → Int, ∃ W2 : Int → Int, z = aFits (w 21) (w 28) (w 29) (w 26) (c5 (h 20) 3) (c5 (h 20) 4) (h 23) (h 24) (w 46) (h 43) (h 44) (h 45) y1 ∧ u = RW b w (uF (uF (uF h 33 A2) 34 M2) 35 W2)
set_option maxRecDepth 100000 in
set_option maxHeartbeats 4000000 in
theorem qX12_fits (l : Launch) (b : Nat → Nat) (w : Nat → Int) (h : Nat → Int → Int) (y1 : Int) (hz : okZ (w 21) (w 28) (w 29) (c5 (h 20) 3) (c5 (h 20) 4) (h 23) (h 24)) (hx_pp : inR y1) (hro : 0 ≤ (w 46) ∧ (w 46) ≤ 20 ∧ ∀ k, 0 ≤ k → k < (w 46) → (0 ≤ (h 43) k ∧ (h 43) k < (w 21)) ∧ (0 ≤ (h 44) k ∧ (h 44) k ≤ 29) ∧ (0 ≤ (h 45) k ∧ (h 45) k ≤ 9999)) : AMi l yX12_fits cX12_fits 5 .int 5 0 0 [rv (b 0), iv y1] (RW b w h) (QX12_fits b w h y1) := by
  have hk := (kX12_fits l (b 0) (o11 b w) (w 21) (w 28) (w 29) (w 26) (b 20) (b 23) (b 24) (b 33) (b 34) (b 35) (h 20) (h 23) (h 24) (h 33) (h 34) (h 35) y1 (w 46) (b 43) (b 44) (b 45) (h 43) (h 44) (h 45) rfl rfl rfl rfl rfl rfl rfl rfl rfl rfl rfl rfl rfl rfl hz hx_pp hro)
  refine AMi.gE (is := [0, 12, 13, 14, 16, 17, 18, 24, 25, 26]) [1, 2, 3, 4, 5, 6, 7, 8, 9, 10, 11, 15, 19, 20, 21, 22, 23, 27] 28 hk rfl rfl (by decide +kernel) (by decide +kernel) (fun z u hq => ?_)
  obtain ⟨A2, M2, W2, hz, hu⟩ := hq
  subst hu
  exact ⟨rfl, RW b w (uF (uF (uF h 33 A2) 34 M2) 35 W2), rfl, rfl, RW_rest (by decide) rfl, ⟨A2, M2, W2, hz, rfl⟩⟩
def QX12_deaf (b : Nat → Nat) (w : Nat → Int) (h : Nat → Int → Int) (y1 : Int) (z : Int) (u : EW) : Prop := ∃ A2 : Int → Int, ∃ M2 : Int → Int, ∃ W2 : Int → Int, z = aDeaf (w 21) (w 28) (w 29) (w 26) (c5 (h 20) 3) (c5 (h 20) 4) (h 23) (h 24) y1 ∧ u = RW b w (uF (uF (uF h 33 A2) 34 M2) 35 W2)
set_option maxRecDepth 100000 in
set_option maxHeartbeats 4000000 in
theorem qX12_deaf (l : Launch) (b : Nat → Nat) (w : Nat → Int) (h : Nat → Int → Int) (y1 : Int) (hz : okZ (w 21) (w 28) (w 29) (c5 (h 20) 3) (c5 (h 20) 4) (h 23) (h 24)) (hx_pp : inR y1) : AMi l yX12_deaf cX12_deaf 4 .int 6 0 0 [rv (b 0), iv y1] (RW b w h) (QX12_deaf b w h y1) := by
  have hk := (kX12_deaf l (b 0) (o11 b w) (w 21) (w 28) (w 29) (w 26) (b 20) (b 23) (b 24) (b 33) (b 34) (b 35) (h 20) (h 23) (h 24) (h 33) (h 34) (h 35) y1 rfl rfl rfl rfl rfl rfl rfl rfl rfl rfl hz hx_pp)
  refine AMi.gE (is := [0, 12, 13, 14, 16, 17, 18]) [1, 2, 3, 4, 5, 6, 7, 8, 9, 10, 11, 15, 19, 20, 21, 22, 23, 24, 25, 26, 27] 28 hk rfl rfl (by decide +kernel) (by decide +kernel) (fun z u hq => ?_)
  obtain ⟨A2, M2, W2, hz, hu⟩ := hq
  subst hu
  exact ⟨rfl, RW b w (uF (uF (uF h 33 A2) 34 M2) 35 W2), rfl, rfl, RW_rest (by decide) rfl, ⟨A2, M2, W2, hz, rfl⟩⟩
def QX12_echoes (b : Nat → Nat) (w : Nat → Int) (h : Nat → Int → Int) (y1 : Int) (z : Int) (u : EW) : Prop := ∃ A2 : Int → Int, ∃ M2 : Int → Int, ∃ W2 : Int → Int, z = aEchoes (w 21) (w 28) (w 26) (c5 (h 20) 3) (c5 (h 20) 4) (h 23) (h 24) y1 ∧ u = RW b w (uF (uF (uF h 33 A2) 34 M2) 35 W2)
set_option maxRecDepth 100000 in
set_option maxHeartbeats 4000000 in
theorem qX12_echoes (l : Launch) (b : Nat → Nat) (w : Nat → Int) (h : Nat → Int → Int) (y1 : Int) (hz : okZ (w 21) (w 28) (w 29) (c5 (h 20) 3) (c5 (h 20) 4) (h 23) (h 24)) (hx_v : inR y1) : AMi l yX12_echoes cX12_echoes 7 .int 6 0 0 [rv (b 0), iv y1] (RW b w h) (QX12_echoes b w h y1) := by
  have hk := (kX12_echoes l (b 0) (o11 b w) (w 21) (w 28) (w 29) (w 26) (b 20) (b 23) (b 24) (b 33) (b 34) (b 35) (h 20) (h 23) (h 24) (h 33) (h 34) (h 35) y1 rfl rfl rfl rfl rfl rfl rfl rfl rfl hz hx_v)
  simp only [Po11_29, uF_self] at hk
  refine AMi.gE (is := [0, 12, 13, 14, 16, 17, 18]) [1, 2, 3, 4, 5, 6, 7, 8, 9, 10, 11, 15, 19, 20, 21, 22, 23, 24, 25, 26, 27] 28 hk rfl rfl (by decide +kernel) (by decide +kernel) (fun z u hq => ?_)
  obtain ⟨A2, M2, W2, hz, hu⟩ := hq
  subst hu
  exact ⟨rfl, RW b w (uF (uF (uF h 33 A2) 34 M2) 35 W2), rfl, rfl, RW_rest (by decide) rfl, ⟨A2, M2, W2, hz, rfl⟩⟩
def QX12_gift (b : Nat → Nat) (w : Nat → Int) (h : Nat → Int → Int) (ds : List LwS) (y1 : Int) (z : Int) (u : EW) : Prop := ∃ A2 : Int → Int, ∃ M2 : Int → Int, ∃ W2 : Int → Int, ∃ Wb2 : Int → Int, ∃ L2 : Int → Int, ∃ S2 : Int → Int, z = aGift (w 21) (w 28) (w 29) (w 26) (w 22) (w 25) (c5 (h 20) 3) (c5 (h 20) 4) (h 23) (h 24) (c5 (h 20) 2) (c5 (h 20) 1) (aDy (w 27) (csA ds (w 27)) (w 22) (w 21) (w 25)) y1 ∧ u = RW b w (uF (uF (uF (uF (uF (uF h 15 L2) 16 S2) 33 A2) 34 M2) 35 W2) 36 Wb2)
set_option maxRecDepth 100000 in
set_option maxHeartbeats 4000000 in
theorem qX12_gift (l : Launch) (b : Nat → Nat) (w : Nat → Int) (h : Nat → Int → Int) (ds : List LwS) (y1 : Int) (hz : okZ (w 21) (w 28) (w 29) (c5 (h 20) 3) (c5 (h 20) 4) (h 23) (h 24)) (hx_v : inR y1) (hpm : (0 ≤ (w 21) ∧ (w 21) ≤ 6) ∧ 1 ≤ (w 22) ∧ (w 22) ≤ 99) (hho : (w 27) = -1 ∨ (0 ≤ (w 27) ∧ (w 27) ≤ 3 ∧ lawAt (h 6) (h 7) (h 9) (h 10) (h 11) (h 12) (w 27) (csA ds (w 27)))) (hod : okDy (w 21) (w 22) (c5 (h 20) 2) (c5 (h 20) 1)) (hdy : 0 ≤ (w 25) ∧ (w 25) ≤ 1000) : AMi l yX12_gift cX12_gift 7 .int 6 0 0 [rv (b 0), iv y1] (RW b w h) (QX12_gift b w h ds y1) := by
  have hk := (kX12_gift l (b 0) (o11 b w) (w 21) (w 28) (w 29) (w 26) (b 20) (b 23) (b 24) (b 33) (b 34) (b 35) (h 20) (h 23) (h 24) (h 33) (h 34) (h 35) y1 (w 22) (w 27) (w 25) (b 6) (b 7) (b 9) (b 10) (b 11) (b 12) (b 15) (b 16) (h 6) (h 7) (h 9) (h 10) (h 11) (h 12) (h 15) (h 16) (csA ds (w 27)) (b 36) (h 36) rfl rfl rfl rfl rfl rfl rfl rfl rfl rfl rfl rfl rfl rfl rfl rfl rfl rfl rfl rfl rfl rfl hz hx_v hpm hho hod hdy)
  refine AMi.gE (is := [0, 12, 13, 14, 16, 17, 18, 19, 2, 3, 5, 6, 7, 8, 9, 10]) [1, 4, 11, 15, 20, 21, 22, 23, 24, 25, 26, 27] 28 hk rfl rfl (by decide +kernel) (by decide +kernel) (fun z u hq => ?_)
  obtain ⟨A2, M2, W2, Wb2, L2, S2, hz, hu⟩ := hq
  subst hu
  exact ⟨rfl, RW b w (uF (uF (uF (uF (uF (uF h 15 L2) 16 S2) 33 A2) 34 M2) 35 W2) 36 Wb2), rfl, rfl, RW_rest (by decide) rfl, ⟨A2, M2, W2, Wb2, L2, S2, hz, rfl⟩⟩
def QX12_tune (b : Nat → Nat) (w : Nat → Int) (h : Nat → Int → Int) (y1 y2 : Int) (z : Int) (u : EW) : Prop := ∃ z9 : Int, ∃ A2 : Int → Int, ∃ M2 : Int → Int, ∃ W2 : Int → Int, z = z9 ∧ u = RW b w (uF (uF (uF h 33 A2) 34 M2) 35 W2) ∧ rTune (w 21) (w 28) (w 29) (w 26) (c5 (h 20) 3) (c5 (h 20) 4) (h 23) (h 24) (w 30) y1 y2 z9
set_option maxRecDepth 100000 in
set_option maxHeartbeats 4000000 in
theorem qX12_tune (l : Launch) (b : Nat → Nat) (w : Nat → Int) (h : Nat → Int → Int) (y1 y2 : Int) (hz : okZ (w 21) (w 28) (w 29) (c5 (h 20) 3) (c5 (h 20) 4) (h 23) (h 24)) (hx_pp : inR y1) (hx_v : inR y2) (hlim : 0 ≤ (w 30) ∧ (w 30) ≤ 999) : AMi l yX12_tune cX12_tune 8 .int 6 0 0 [rv (b 0), iv y1, iv y2] (RW b w h) (QX12_tune b w h y1 y2) := by
  have hk := (kX12_tune l (b 0) (o11 b w) (w 21) (w 28) (w 29) (w 26) (b 20) (b 23) (b 24) (b 33) (b 34) (b 35) (h 20) (h 23) (h 24) (h 33) (h 34) (h 35) y1 y2 (w 30) rfl rfl rfl rfl rfl rfl rfl rfl rfl rfl rfl hz hx_pp hx_v hlim)
  refine AMi.gE (is := [0, 12, 13, 14, 16, 17, 18]) [1, 2, 3, 4, 5, 6, 7, 8, 9, 10, 11, 15, 19, 20, 21, 22, 23, 24, 25, 26, 27] 28 hk rfl rfl (by decide +kernel) (by decide +kernel) (fun z u hq => ?_)
  obtain ⟨z9, A2, M2, W2, hz, hu, hs⟩ := hq
  subst hu
  exact ⟨rfl, RW b w (uF (uF (uF h 33 A2) 34 M2) 35 W2), rfl, rfl, RW_rest (by decide) rfl, ⟨z9, A2, M2, W2, hz, rfl, hs⟩⟩
def QX12_place (b : Nat → Nat) (w : Nat → Int) (h : Nat → Int → Int) (y1 y2 : Int) (z : Int) (u : EW) : Prop := ∃ A2 : Int → Int, ∃ M2 : Int → Int, ∃ W2 : Int → Int, z = aPlace (w 21) (w 28) (w 29) (w 26) (c5 (h 20) 3) (c5 (h 20) 4) (h 23) (h 24) y1 y2 ∧ u = RW b w (uF (uF (uF h 33 A2) 34 M2) 35 W2)
set_option maxRecDepth 100000 in
set_option maxHeartbeats 4000000 in
theorem qX12_place (l : Launch) (b : Nat → Nat) (w : Nat → Int) (h : Nat → Int → Int) (y1 y2 : Int) (hz : okZ (w 21) (w 28) (w 29) (c5 (h 20) 3) (c5 (h 20) 4) (h 23) (h 24)) (hx_b : inR y1) (hx_i : inR y2) : AMi l yX12_place cX12_place 7 .int 4 0 0 [rv (b 0), iv y1, iv y2] (RW b w h) (QX12_place b w h y1 y2) := by
  have hk := (kX12_place l (b 0) (o11 b w) (w 21) (w 28) (w 29) (w 26) (b 20) (b 23) (b 24) (b 33) (b 34) (b 35) (h 20) (h 23) (h 24) (h 33) (h 34) (h 35) y1 y2 rfl rfl rfl rfl rfl rfl rfl rfl rfl rfl hz hx_b hx_i)
  refine AMi.gE (is := [0, 12, 13, 14, 16, 17, 18]) [1, 2, 3, 4, 5, 6, 7, 8, 9, 10, 11, 15, 19, 20, 21, 22, 23, 24, 25, 26, 27] 28 hk rfl rfl (by decide +kernel) (by decide +kernel) (fun z u hq => ?_)
  obtain ⟨A2, M2, W2, hz, hu⟩ := hq
  subst hu
  exact ⟨rfl, RW b w (uF (uF (uF h 33 A2) 34 M2) 35 W2), rfl, rfl, RW_rest (by decide) rfl, ⟨A2, M2, W2, hz, rfl⟩⟩
def QX12_overtakes (b : Nat → Nat) (w : Nat → Int) (h : Nat → Int → Int) (y1 y2 : Int) (z : Int) (u : EW) : Prop := ∃ A2 : Int → Int, ∃ M2 : Int → Int, ∃ W2 : Int → Int, z = aOver (w 21) (w 28) (w 29) (w 26) (c5 (h 20) 3) (c5 (h 20) 4) (h 23) (h 24) y1 y2 ∧ u = RW b w (uF (uF (uF h 33 A2) 34 M2) 35 W2)
set_option maxRecDepth 100000 in
set_option maxHeartbeats 4000000 in
theorem qX12_overtakes (l : Launch) (b : Nat → Nat) (w : Nat → Int) (h : Nat → Int → Int) (y1 y2 : Int) (hz : okZ (w 21) (w 28) (w 29) (c5 (h 20) 3) (c5 (h 20) 4) (h 23) (h 24)) (hx_i : inR y1) (hx_j : inR y2) : AMi l yX12_overtakes cX12_overtakes 6 .int 4 0 0 [rv (b 0), iv y1, iv y2] (RW b w h) (QX12_overtakes b w h y1 y2) := by
  have hk := (kX12_overtakes l (b 0) (o11 b w) (w 21) (w 28) (w 29) (w 26) (b 20) (b 23) (b 24) (b 33) (b 34) (b 35) (h 20) (h 23) (h 24) (h 33) (h 34) (h 35) y1 y2 rfl rfl rfl rfl rfl rfl rfl rfl rfl rfl hz hx_i hx_j)
  refine AMi.gE (is := [0, 12, 13, 14, 16, 17, 18]) [1, 2, 3, 4, 5, 6, 7, 8, 9, 10, 11, 15, 19, 20, 21, 22, 23, 24, 25, 26, 27] 28 hk rfl rfl (by decide +kernel) (by decide +kernel) (fun z u hq => ?_)
  obtain ⟨A2, M2, W2, hz, hu⟩ := hq
  subst hu
  exact ⟨rfl, RW b w (uF (uF (uF h 33 A2) 34 M2) 35 W2), rfl, rfl, RW_rest (by decide) rfl, ⟨A2, M2, W2, hz, rfl⟩⟩
def QX12_middle (b : Nat → Nat) (w : Nat → Int) (h : Nat → Int → Int) (z : Int) (u : EW) : Prop := ∃ A2 : Int → Int, ∃ M2 : Int → Int, ∃ W2 : Int → Int, z = aMiddle (w 21) (w 28) (w 29) (w 26) (c5 (h 20) 3) (c5 (h 20) 4) (h 23) (h 24) ∧ u = RW b w (uF (uF (uF h 33 A2) 34 M2) 35 W2)
set_option maxRecDepth 100000 in
set_option maxHeartbeats 4000000 in
theorem qX12_middle (l : Launch) (b : Nat → Nat) (w : Nat → Int) (h : Nat → Int → Int) (hz : okZ (w 21) (w 28) (w 29) (c5 (h 20) 3) (c5 (h 20) 4) (h 23) (h 24)) : AMi l yX12_middle cX12_middle 6 .int 4 0 0 [rv (b 0)] (RW b w h) (QX12_middle b w h) := by
  have hk := (kX12_middle l (b 0) (o11 b w) (w 21) (w 28) (w 29) (w 26) (b 20) (b 23) (b 24) (b 33) (b 34) (b 35) (h 20) (h 23) (h 24) (h 33) (h 34) (h 35) rfl rfl rfl rfl rfl rfl rfl rfl rfl rfl hz)
  refine AMi.gE (is := [0, 12, 13, 14, 16, 17, 18]) [1, 2, 3, 4, 5, 6, 7, 8, 9, 10, 11, 15, 19, 20, 21, 22, 23, 24, 25, 26, 27] 28 hk rfl rfl (by decide +kernel) (by decide +kernel) (fun z u hq => ?_)
  obtain ⟨A2, M2, W2, hz, hu⟩ := hq
  subst hu
  exact ⟨rfl, RW b w (uF (uF (uF h 33 A2) 34 M2) 35 W2), rfl, rfl, RW_rest (by decide) rfl, ⟨A2, M2, W2, hz, rfl⟩⟩
def QX12_ends (b : Nat → Nat) (w : Nat → Int) (h : Nat → Int → Int) (y1 : Int) (z : Int) (u : EW) : Prop := ∃ A2 : Int → Int, ∃ M2 : Int → Int, ∃ W2 : Int → Int, z = aEnds (w 21) (w 28) (w 29) (w 26) (c5 (h 20) 3) (c5 (h 20) 4) (h 23) (h 24) y1 ∧ u = RW b w (uF (uF (uF h 33 A2) 34 M2) 35 W2)
set_option maxRecDepth 100000 in
set_option maxHeartbeats 4000000 in
theorem qX12_ends (l : Launch) (b : Nat → Nat) (w : Nat → Int) (h : Nat → Int → Int) (y1 : Int) (hz : okZ (w 21) (w 28) (w 29) (c5 (h 20) 3) (c5 (h 20) 4) (h 23) (h 24)) (hx_v : inR y1) : AMi l yX12_ends cX12_ends 3 .int 4 0 0 [rv (b 0), iv y1] (RW b w h) (QX12_ends b w h y1) := by
  have hk := (kX12_ends l (b 0) (o11 b w) (w 21) (w 28) (w 29) (w 26) (b 20) (b 23) (b 24) (b 33) (b 34) (b 35) (h 20) (h 23) (h 24) (h 33) (h 34) (h 35) y1 rfl rfl rfl rfl rfl rfl rfl rfl rfl rfl hz hx_v)
  refine AMi.gE (is := [0, 12, 13, 14, 16, 17, 18]) [1, 2, 3, 4, 5, 6, 7, 8, 9, 10, 11, 15, 19, 20, 21, 22, 23, 24, 25, 26, 27] 28 hk rfl rfl (by decide +kernel) (by decide +kernel) (fun z u hq => ?_)
  obtain ⟨A2, M2, W2, hz, hu⟩ := hq
  subst hu
  exact ⟨rfl, RW b w (uF (uF (uF h 33 A2) 34 M2) 35 W2), rfl, rfl, RW_rest (by decide) rfl, ⟨A2, M2, W2, hz, rfl⟩⟩
def QX12_stray (b : Nat → Nat) (w : Nat → Int) (h : Nat → Int → Int) (y1 y2 : Int) (z : Int) (u : EW) : Prop := ∃ A2 : Int → Int, ∃ M2 : Int → Int, ∃ W2 : Int → Int, z = aStray (w 21) (w 28) (w 29) (c5 (h 20) 3) (c5 (h 20) 4) (h 23) y1 y2 ∧ u = RW b w (uF (uF (uF h 33 A2) 34 M2) 35 W2)
set_option maxRecDepth 100000 in
set_option maxHeartbeats 4000000 in
theorem qX12_stray (l : Launch) (b : Nat → Nat) (w : Nat → Int) (h : Nat → Int → Int) (y1 y2 : Int) (hz : okZ (w 21) (w 28) (w 29) (c5 (h 20) 3) (c5 (h 20) 4) (h 23) (h 24)) (hx_pp : inR y1) (hx_v : inR y2) : AMi l yX12_stray cX12_stray 4 .int 4 0 0 [rv (b 0), iv y1, iv y2] (RW b w h) (QX12_stray b w h y1 y2) := by
  have hk := (kX12_stray l (b 0) (o11 b w) (w 21) (w 28) (w 29) (w 26) (b 20) (b 23) (b 24) (b 33) (b 34) (b 35) (h 20) (h 23) (h 24) (h 33) (h 34) (h 35) y1 y2 rfl rfl rfl rfl rfl rfl rfl rfl rfl rfl hz hx_pp hx_v)
  refine AMi.gE (is := [0, 12, 13, 14, 16, 17, 18]) [1, 2, 3, 4, 5, 6, 7, 8, 9, 10, 11, 15, 19, 20, 21, 22, 23, 24, 25, 26, 27] 28 hk rfl rfl (by decide +kernel) (by decide +kernel) (fun z u hq => ?_)
  obtain ⟨A2, M2, W2, hz, hu⟩ := hq
  subst hu
  exact ⟨rfl, RW b w (uF (uF (uF h 33 A2) 34 M2) 35 W2), rfl, rfl, RW_rest (by decide) rfl, ⟨A2, M2, W2, hz, rfl⟩⟩
def QX12_image (b : Nat → Nat) (w : Nat → Int) (h : Nat → Int → Int) (z : Int) (u : EW) : Prop := (z = -1 ∧ u = RW b w h ∧ (w 21) = 0) ∨ (∃ I2 : Int → Int, z = (w 25) ∧ u = RW b (uF (uF w 48 (w 25)) 49 1) (uF h 47 I2) ∧ 1 ≤ (w 21) ∧ (∀ x, 0 ≤ x → x < 6 → I2 x = (h 23) x))
set_option maxRecDepth 100000 in
set_option maxHeartbeats 4000000 in
theorem qX12_image (l : Launch) (b : Nat → Nat) (w : Nat → Int) (h : Nat → Int → Int) (hpl : 0 ≤ (w 21) ∧ (w 21) ≤ 6) : AMi l yX12_image cX12_image 2 .int 0 0 0 [rv (b 0)] (RW b w h) (QX12_image b w h) := by
  have hk := (kX12_image l (b 0) (o11 b w) (w 21) (b 23) (h 23) (b 47) (h 47) (w 25) (w 48) (w 49) rfl rfl rfl rfl hpl)
  simp only [Po11_48, Po11_49, uF_self] at hk
  refine AMi.gE (is := [0, 13, 27]) [1, 2, 3, 4, 5, 6, 7, 8, 9, 10, 11, 12, 14, 15, 16, 17, 18, 19, 20, 21, 22, 23, 24, 25, 26] 28 hk rfl rfl (by decide +kernel) (by decide +kernel) (fun z u hq => ?_)
  rcases hq with ⟨hz, hu, hq⟩ | ⟨I2, hz, hu, hq, hI2⟩
  · subst hu
    exact ⟨rfl, RW b w h, rfl, rfl, RW_rest (by decide) rfl, Or.inl ⟨hz, rfl, hq⟩⟩
  · subst hu
    exact ⟨rfl, RW b (uF (uF w 48 (w 25)) 49 1) (uF h 47 I2), rfl, rfl, RW_rest (by decide) rfl, Or.inr (⟨I2, hz, rfl, hq, hI2⟩)⟩
def QX12_back (b : Nat → Nat) (w : Nat → Int) (h : Nat → Int → Int) (z : Int) (u : EW) : Prop := (z = -1 ∧ u = RW b w h ∧ (w 49) = 0) ∨ (∃ B2 : Int → Int, z = (w 48) ∧ u = RW b (uF (uF w 25 (w 48)) 32 0) (uF h 23 B2) ∧ (w 49) = 1 ∧ (∀ x, 0 ≤ x → x < 6 → B2 x = (h 47) x))
set_option maxRecDepth 100000 in
set_option maxHeartbeats 4000000 in
theorem qX12_back (l : Launch) (b : Nat → Nat) (w : Nat → Int) (h : Nat → Int → Int) (hh : (w 49) = 0 ∨ (w 49) = 1) : AMi l yX12_back cX12_back 2 .int 0 0 0 [rv (b 0)] (RW b w h) (QX12_back b w h) := by
  have hk := (kX12_back l (b 0) (o11 b w) (b 23) (h 23) (b 47) (h 47) (w 25) (w 48) (w 49) (w 32) rfl rfl rfl rfl hh)
  simp only [Po11_25, Po11_32, uF_self] at hk
  refine AMi.gE (is := [0, 13, 27]) [1, 2, 3, 4, 5, 6, 7, 8, 9, 10, 11, 12, 14, 15, 16, 17, 18, 19, 20, 21, 22, 23, 24, 25, 26] 28 hk rfl rfl (by decide +kernel) (by decide +kernel) (fun z u hq => ?_)
  rcases hq with ⟨hz, hu, hq⟩ | ⟨B2, hz, hu, hq, hB2⟩
  · subst hu
    exact ⟨rfl, RW b w h, rfl, rfl, RW_rest (by decide) rfl, Or.inl ⟨hz, rfl, hq⟩⟩
  · subst hu
    exact ⟨rfl, RW b (uF (uF w 25 (w 48)) 32 0) (uF h 23 B2), rfl, rfl, RW_rest (by decide) rfl, Or.inr (⟨B2, hz, rfl, hq, hB2⟩)⟩
def QX12_count (b : Nat → Nat) (w : Nat → Int) (h : Nat → Int → Int) (y1 : Int) (z : Int) (u : EW) : Prop := ∃ z9 : Int, z = z9 ∧ u = RW b w h
set_option maxRecDepth 100000 in
set_option maxHeartbeats 4000000 in
theorem qX12_count (l : Launch) (b : Nat → Nat) (w : Nat → Int) (h : Nat → Int → Int) (y1 : Int) (hx_v : inR y1) : AMi l yX12_count cX12_count 2 .int 0 0 0 [rv (b 0), iv y1] (RW b w h) (QX12_count b w h y1) := by
  have hk := (kX12_count l (b 0) (o11 b w) y1 (w 21) (w 22) (w 13) (w 2) (w 25) (w 27) (w 28) (w 29) (w 30) (w 26) (w 46) (w 32) rfl rfl rfl rfl rfl rfl rfl rfl rfl rfl rfl rfl hx_v)
  refine AMi.gE (is := [0]) [1, 2, 3, 4, 5, 6, 7, 8, 9, 10, 11, 12, 13, 14, 15, 16, 17, 18, 19, 20, 21, 22, 23, 24, 25, 26, 27] 28 hk rfl rfl (by decide +kernel) (by decide +kernel) (fun z u hq => ?_)
  obtain ⟨z9, hz, hu⟩ := hq
  subst hu
  exact ⟨rfl, RW b w h, rfl, rfl, RW_rest (by decide) rfl, ⟨z9, hz, rfl⟩⟩
end pt_92qr
/- 93.nse.lean.txt -/
section pt_93nse
/-! AN EXCEPTION WHOSE CONSTRUCTOR LINKS AT ANOTHER PLACE THAN 7 (follows vx_ctorMadeS and vx_makeS of kit/laws/EXCEPTIONS) -/
def nse_ch (X : String) (ix : Nat) (rx : ByteArray) : List String → List Cond
  | [] => Bundle.passSAtoms X Bundle.tN ix rx
  | Y :: r => Bundle.passSAtoms X Y ix rx ++ Bundle.chainSAtoms Y r
theorem nse_chain {args : Array Value} {s : State} {pl : Platform} (hpl : pl.magicAccessors = ({} : Platform).magicAccessors) {top : MethodId} (htop : s.methodNamed? (Bundle.initS Bundle.tN) = some top) {ix : Nat} {rx : ByteArray} (x0 : decode rx 0 = .ok (.aload_n 0, 1)) (x1 : decode rx 1 = .ok (.aload_n 1, 1)) (x2 : decode rx 2 = .ok (.invokespecial ix, 3)) (x5 : decode rx 5 = .ok (.return_, 1)) :
    ∀ (names : List String) (X : String), Bundle.fit X = true → (∀ n ∈ names, Bundle.fit n = true) → (∀ c ∈ nse_ch X ix rx names, c.before args s = true) →
      ∃ (P1 : PassC) (Ps : List PassC), Ps.length = names.length ∧ P1.LinksS pl s ∧ (∀ P, P ∈ Ps → P.LinksS pl s) ∧ s.methodNamed? (Bundle.initS X) = some P1.m ∧
        P1.sup = firstOf top (Ps.map (·.toPassT)) ∧ PassesOn top (Ps.map (·.toPassT)) := by
  intro names X hX hn h
  cases names with
  | nil =>
    obtain ⟨P, L, hm, hs⟩ := PassC.ofS_atoms (args := args) (s := s) hpl (X := X) (Y := Bundle.tN) (Bundle.fit_spec hX).1 (by decide) x0 x1 x2 x5 h
    exact ⟨P, [], rfl, L, (fun _ hP => by cases hP), hm, Option.some.inj (hs.symm.trans htop), trivial⟩
  | cons Y r =>
    obtain ⟨P, L, hm, hs⟩ := PassC.ofS_atoms (args := args) (s := s) hpl (X := X) (Y := Y) (Bundle.fit_spec hX).1 (Bundle.fit_spec (hn Y List.mem_cons_self)).2 x0 x1 x2 x5 (fun c hc => h c (List.mem_append_left _ hc))
    obtain ⟨P', Ps, hlen, L', hL, hm', hsup, hpass⟩ := Bundle.chainS (args := args) hpl htop r Y (hn Y List.mem_cons_self) (fun n hn' => hn n (List.mem_cons_of_mem _ hn')) (fun c hc => h c (List.mem_append_right _ hc))
    refine ⟨P, P' :: Ps, by simp [hlen], L, fun Q hQ => ?_, hm, Option.some.inj (hs.symm.trans hm'), hsup, hpass⟩
    rcases List.mem_cons.mp hQ with rfl | hQ
    · exact L'
    · exact hL Q hQ
def nse_at (own : String) (ic : Nat) (X : String) (ix : Nat) (rx : ByteArray) (names : List String) : List Cond :=
  Bundle.throwableAtoms ++ Bundle.throwableSAtoms ++ nse_ch X ix rx names ++
  [.methodLink own ic (Bundle.initS X), .instantiable X 6, .castable X X, .selects X Bundle.tFill0 Bundle.tFill0, .selects X Bundle.tFill Bundle.tFill,
   .lays X Bundle.tN "cause" "Ljava/lang/Throwable;", .lays X Bundle.tN "stackTrace" Bundle.steD, .lays X Bundle.tN "suppressedExceptions" Bundle.listD, .lays X Bundle.tN "detailMessage" "Ljava/lang/String;",
   .isRef (.static Bundle.tN "UNASSIGNED_STACK" Bundle.steD), .isRef (.static Bundle.tN "SUPPRESSED_SENTINEL" Bundle.listD),
   .fieldLink Bundle.tN 198 Bundle.tN "backtrace" "Ljava/lang/Object;", .lays Bundle.tN Bundle.tN "backtrace" "Ljava/lang/Object;", .lays X Bundle.tN "backtrace" "Ljava/lang/Object;"]
def nse_atS (own : String) (ic : Nat) (X : String) (ix : Nat) (rx : ByteArray) (names : List String) : List Cond := (nse_at own ic X ix rx names).filter vx_no
section NSA
variable {p : Program} {l : Launch} {e : Env} {R : Room} {s : State} {m₀ : MethodId} {args : Array Value} {below : List Frame} {meth : Method} {c : Code} {W : State} {locs : List Loc} {cells slots : Nat}
set_option maxHeartbeats 4000000 in
theorem nse_ctor {ix : Nat} {rx : ByteArray} (x0 : decode rx 0 = .ok (.aload_n 0, 1)) (x1 : decode rx 1 = .ok (.aload_n 1, 1)) (x2 : decode rx 2 = .ok (.invokespecial ix, 3)) (x5 : decode rx 5 = .ok (.return_, 1)) (X : Stand p l e R s m₀ args below meth c W locs cells slots) (hexec : p.tables.exec = Jvm.exec) (htr : e.platform.stackTraces = false) {own cls : String} {names : List String} {ic : Nat}
    (hown : s.vm.findClass own = some m₀.cls) (hcls : Bundle.fit cls = true) (hnames : ∀ n ∈ names, Bundle.fit n = true)
    (h : ∀ a ∈ nse_at own ic cls ix rx names, a.before args s = true)
    (hlocs : ∀ x ∈ locs, ∀ cell, s.heap[x.base]? = some cell → cell.vm.isStatics = false)
    {a : Addr} {cX : ClassId} {kX : Class} (hfoundX : s.vm.findClass cls = some cX) (hkX : s.vm.classes[cX]? = some kX) (hcell : W.heap[a]? = some (freshCell cX kX)) (hnew : s.heap.size ≤ a)
    {msg : Value} (hmsg : msg.isRef = true)
    {g : JFrame} (hg : g.method = m₀) (hsize : g.locals.size = c.maxLocals) {rest : List Value} (hstack : g.stack = msg :: .ref a :: .ref a :: rest)
    (hd6 : decode c.code g.pc = .ok (.invokespecial ic, 3))
    (hRframes : names.length + 3 < R.frames) (hRlocals : 2 * g.monitorRoom + ((Value.ref a :: rest).map fun v => v.category).sum + (13 * (names.length + 1) + 42) ≤ R.locals) :
    ∃ (V : State) (ce : Cell) (L : List Loc), Stand p l e R s m₀ args below meth c (V.setCell a ce) (locs ++ L) cells slots ∧ (∀ y ∈ L, y.base = a) ∧ a < V.heap.size ∧ ce.cls = cX ∧ ce.vm = .none ∧
      ∀ target, Steps p.tables e below ((V.setCell a ce).setTop { g with stack := .ref a :: rest, pc := g.pc + 3 }) target → Steps p.tables e below (W.setTop g) target := by
  have howns : e.platform.frameOwnsMonitors = true := by rw [X.admits.platform]
  have hfin : e.platform.finalization = false := by rw [X.admits.platform]
  have hpl : e.platform.magicAccessors = ({} : Platform).magicAccessors := by rw [X.admits.platform]
  have a' : ∀ x, x ∈ nse_at own ic cls ix rx names → x.holds args s none s [] = true := fun x hx => h x hx
  obtain ⟨T, Z0, L, -, Y⟩ := ThrowableC.of_atoms (args := args) howns hfin hpl (fun x hx => h x (by simp [nse_at, hx]))
  obtain ⟨Z, M, LZ, LM, hnZ⟩ := Init0T.ofS_atoms (args := args) hpl L Y (fun x hx => h x (by simp [nse_at, hx]))
  obtain ⟨P1, Ps, hlen, L1, hL, hP1m, hlink1, hlink⟩ := nse_chain (args := args) hpl hnZ x0 x1 x2 x5 names cls hcls hnames (fun x hx => h x (by simp [nse_at, hx]))
  have hfound : s.vm.findClass cls = some P1.m.cls := findClass_of_methodNamed hP1m
  cases Option.some.inj (hfoundX.symm.trans hfound)
  obtain ⟨c1, kX', hc1, hk, hord, -, -, hn6⟩ := Cond.instantiable_spec (a' (.instantiable cls 6) (by simp [nse_at]))
  cases Option.some.inj (hc1.symm.trans hfound)
  cases Option.some.inj (hkX.symm.trans hk)
  have hsel0 : selectMethod e.platform s.vm P1.m.cls T.fill0 = .method T.fill0 := by
    obtain ⟨c2, r2, m2, q1, q2, q3, q4, -⟩ := Cond.selects_spec (a' (.selects cls Bundle.tFill0 Bundle.tFill0) (by simp [nse_at]))
    cases Option.some.inj (q1.symm.trans hfound)
    cases Option.some.inj (q2.symm.trans (State.methodFound?_of_named Y.fill0 (by decide)))
    cases Option.some.inj (q3.symm.trans Y.fill0)
    rw [Launch.admits_selectMethod X.admits]; exact q4
  have hselF : selectMethod e.platform s.vm P1.m.cls T.fill = .method T.fill := by
    obtain ⟨c2, r2, m2, q1, q2, q3, q4, -⟩ := Cond.selects_spec (a' (.selects cls Bundle.tFill Bundle.tFill) (by simp [nse_at]))
    cases Option.some.inj (q1.symm.trans hfound)
    cases Option.some.inj (q2.symm.trans (State.methodFound?_of_named Y.fill (by decide)))
    cases Option.some.inj (q3.symm.trans Y.fill)
    rw [Launch.admits_selectMethod X.admits]; exact q4
  obtain ⟨cellS0, hcS0, hiss⟩ := Y.statics
  obtain ⟨u0, hu0⟩ := Cond.staticRefV Y.unassigned L.unassignedStatic L.statics hcS0 hiss (a' (.isRef (.static Bundle.tN "UNASSIGNED_STACK" Bundle.steD)) (by simp [nse_at]))
  obtain ⟨sen, hsen⟩ := Cond.staticRefV Y.sentinel L.sentinelStatic L.statics hcS0 hiss (a' (.isRef (.static Bundle.tN "SUPPRESSED_SENTINEL" Bundle.listD)) (by simp [nse_at]))
  obtain ⟨ci198, i198, fB, hk198, hg198, ha198, hsB, -, hnB, htB, hffB⟩ := Cond.ownField (t := .object "java/lang/Object") Y.found L.cls (by decide +kernel) (a' (.fieldLink Bundle.tN 198 Bundle.tN "backtrace" "Ljava/lang/Object;") (by simp [nse_at])) (a' (.lays Bundle.tN Bundle.tN "backtrace" "Ljava/lang/Object;") (by simp [nse_at])) e.platform hpl
  obtain ⟨cellS, hcS', heS, -, hkeep⟩ := X.same.2.2.2.2.2 T.aS cellS0 hcS0
  have hcellS : W.heap[T.aS]? = some cellS := hcS'
  have hout' : ∀ i, (⟨T.aS, i⟩ : Loc) ∉ locs := fun i hmem => by
    have := hlocs _ hmem cellS0 hcS0
    rw [hiss] at this; cases this
  have hknownS : cellS.vm ≠ .unknown := by
    rw [heS]; intro hu
    rw [show cellS0.vm = .unknown from hu] at hiss
    cases hiss
  have hneS : T.aS ≠ a := Nat.ne_of_lt (Nat.lt_of_lt_of_le (Array.getElem?_eq_some_iff.mp hcS0).1 hnew)
  obtain ⟨iM, hffM⟩ := Y.msg
  obtain ⟨tyC, dC, hdC, hdnC⟩ := Cond.laysAt hfound hk Y.cause (a' (.lays cls Bundle.tN "cause" "Ljava/lang/Throwable;") (by simp [nse_at]))
  obtain ⟨tyS, dS, hdS, hdnS⟩ := Cond.laysAt hfound hk Y.stack (a' (.lays cls Bundle.tN "stackTrace" Bundle.steD) (by simp [nse_at]))
  obtain ⟨tyP, dP, hdP, hdnP⟩ := Cond.laysAt hfound hk Y.supp (a' (.lays cls Bundle.tN "suppressedExceptions" Bundle.listD) (by simp [nse_at]))
  obtain ⟨tyM, dM, hdM, hdnM⟩ := Cond.laysAt hfound hk hffM (a' (.lays cls Bundle.tN "detailMessage" "Ljava/lang/String;") (by simp [nse_at]))
  obtain ⟨tyB, dB, hdB, hdnB⟩ := Cond.laysAt hfound hk hffB (a' (.lays cls Bundle.tN "backtrace" "Ljava/lang/Object;") (by simp [nse_at]))
  have bC := Cond.laysApart hdB hdC hdnB hdnC (by rw [hnB, Y.causeName]; decide)
  have bS := Cond.laysApart hdB hdS hdnB hdnS (by rw [hnB, Y.stackName]; decide)
  have bP := Cond.laysApart hdB hdP hdnB hdnP (by rw [hnB, Y.suppName]; decide)
  have hskip : SkipFacts T e.platform s (fun u => u) u0 ((preparedCellV T.toThrowableT (freshCell P1.m.cls kX) a u0 sen).withEntry W.cur) :=
    ⟨{ ci198 := ci198, i198 := i198, fBack := fB }, ⟨hk198, hg198, ha198, hsB⟩, by
      have := fresh_default (c := P1.m.cls) tyB
      rw [htB] at this
      simpa [preparedCellV, Cell.setSlot, Cell.withEntry, Array.getElem?_setIfInBounds, bC, bS, bP, bC.symm, bS.symm, bP.symm, defaultValue] using this, fun _ _ => rfl⟩
  obtain ⟨tm, methC, cdC, kC, vm₁, hnC, -, -, -, -, -, -, -, hW₁, st1⟩ := Steps.initColdS (tb := p.tables) (e := e) (below := below) (s := s) (U := W) X.here hexec X.warmed hpl hown (t := Bundle.initS cls) rfl rfl (Bundle.fit_spec hcls).2
    (a' (.methodLink own ic (Bundle.initS cls)) (by simp [nse_at])) (h (.instanceMethod (Bundle.initS cls)) (by cases names <;> simp [nse_at, nse_ch, Bundle.passSAtoms])) (bytes := rx) (maxL := 2) (h (.code (Bundle.initS cls) rx 2 none) (by cases names <;> simp [nse_at, nse_ch, Bundle.passSAtoms]))
    (f := g) hg (a := a) (msg := msg) (rest := .ref a :: rest) hstack hd6
  cases Option.some.inj (hnC.symm.trans hP1m)
  have X₁ := X.noted hW₁
  obtain ⟨vm₂, X₂, st2⟩ := X₁.ctorMessageOffV hexec (g := { g with stack := .ref a :: rest }) hg hsize T L Z LZ M LM (P1 :: Ps)
    (fun P hP => by rcases List.mem_cons.mp hP with rfl | hP; exact L1; exact hL P hP) ⟨hlink1, hlink⟩ (u0 := u0) (sen := sen) (self := a) hmsg (cell := freshCell P1.m.cls kX) (cellS := cellS)
    hcell (fun _ => by simp) (by simp) rfl rfl hsel0 hselF hcellS hneS hknownS (by rw [hkeep _ (hout' _)]; exact hu0) (by rw [hkeep _ (hout' _)]; exact hsen)
    (Takes.of_laid hk hord tyC (by rw [Y.causeType]; rfl)) (Takes.of_laid hk hord tyS (by rw [Y.stackType]; exact fits_refV_array _ u0)) (Takes.of_laid hk hord tyP (by rw [Y.suppType]; exact fits_refV_object _ sen))
    (Takes.of_laid hk hord tyM (by rw [Y.msgType]; exact fits_refV_object _ ⟨msg, hmsg⟩)) Y.objLocals hskip htr [] hd6
    (by simp only [List.length_cons, hlen]; omega) (by simp only [List.length_cons, hlen]; exact hRlocals)
  have hlt : a < ((W.setVm vm₁).setVm vm₂).heap.size := (Array.getElem?_eq_some_iff.mp hcell).1
  refine ⟨(W.setVm vm₁).setVm vm₂, _, _, X₂, fun y hy => ?_, hlt, rfl, rfl, fun target hwalk => st1 _ (fun acts => ?_)⟩
  · simp only [List.mem_cons, List.not_mem_nil, or_false] at hy
    rcases hy with rfl | rfl | rfl | rfl | rfl <;> rfl
  · rw [doInvoke_state]
    exact st2 _ hwalk
end NSA
section NSB
variable {p : Program} {l : Launch} {e : Env} {R : Room} {s : State} {m : MethodId} {args : Array Value} {below : List Frame} {meth : Method} {c : Code} {H : Heap} {locs : List Loc} {cells slots : Nat} {Q : State → Prop} {ls : Array Slot} {rest : List Value}
theorem nse_make {ix : Nat} {rx : ByteArray} (x0 : decode rx 0 = .ok (.aload_n 0, 1)) (x1 : decode rx 1 = .ok (.aload_n 1, 1)) (x2 : decode rx 2 = .ok (.invokespecial ix, 3)) (x5 : decode rx 5 = .ok (.return_, 1)) {cc : ByteArray} {pc : Nat} (hexec : p.tables.exec = Jvm.exec) (hb : c.code = cc) (hl : l.stackTraces = false) {own cls text : String} {names : List String} {ik is ic sa : Nat} {A : Nat → Prop}
    (hown : s.vm.findClass own = some m.cls) (hcls : Bundle.fit cls = true) (hnames : ∀ n ∈ names, Bundle.fit n = true)
    (hk : (Cond.classLink own ik cls).before args s = true) (hini : (Cond.initialized cls).before args s = true) (hstr : vk_R own is text sa s) (hat : ∀ w ∈ nse_atS own ic cls ix rx names, w.before args s = true)
    (hgood : ∀ w ∈ Cond.classLink own ik cls :: Cond.initialized cls :: nse_atS own ic cls ix rx names, vx_ot w = true)
    (hU : vx_Zq Bundle.tN "UNASSIGNED_STACK" Bundle.steD A s s.heap) (hN : vx_Zq Bundle.tN "SUPPRESSED_SENTINEL" Bundle.listD A s s.heap) (hS : va_S A s.heap H locs) (hsize : ls.size = c.maxLocals)
    (d0 : decode cc pc = .ok (.new ik, 3)) (d3 : decode cc (pc + 3) = .ok (.dup, 1)) (d4 : decode cc (pc + 4) = .ok (.ldc is, 2)) (d6 : decode cc (pc + 6) = .ok (.invokespecial ic, 3))
    (hRframes : names.length + 3 < R.frames) (hRlocals : (rest.map fun v => v.category).sum + (13 * (names.length + 1) + 43) ≤ R.locals) (hRcells : cells + 1 ≤ R.cells) (hRslots : slots + 6 ≤ R.slots)
    (kk : ∀ (q : Nat) (ce : Cell) (H1 : Heap), H1[q]? = some ce → ce.vm = .none → s.vm.findClass cls = some ce.cls → H.size ≤ H1.size → (∀ q : Nat, q < H.size → H1[q]? = H[q]?) → W p l e R s m args below meth c H1 locs (cells + 1) (slots + 6) Q (F0 m (pc + 9) ls (.ref q :: rest))) :
    W p l e R s m args below meth c H locs cells slots Q (F0 m pc ls rest) := by
  intro T hT X
  subst hT
  have htr : e.platform.stackTraces = false := (show e.platform.stackTraces = l.stackTraces by rw [X.admits.platform]).trans hl
  have Y := vx_rebase X (R' := { frames := R.frames, locals := R.locals, cells := 1, slots := 6 }) (Nat.le_refl _) (Nat.le_refl _) hRcells hRslots
  obtain ⟨s', hA'⟩ : ∃ z, z = (T.setVm s.vm).setFrames (.invoking m args :: below) := ⟨_, rfl⟩
  rw [← hA'] at Y
  have hvm : s'.vm = s.vm := by rw [hA']; rfl
  have hhp : s'.heap = T.heap := by rw [hA']; rfl
  have hW0 : s.WarmedH s'.vm := by rw [hvm]; exact State.WarmedH.refl s
  have hat' : ∀ w ∈ nse_atS own ic cls ix rx names, w.before args s' = true := fun w hw => vx_ot_at hW0 hvm.symm (hgood w (List.mem_cons_of_mem _ (List.mem_cons_of_mem _ hw))) (hat w hw)
  have hk' : (Cond.classLink own ik cls).before args s' = true := vx_ot_at hW0 hvm.symm (hgood _ List.mem_cons_self) hk
  have hini' : (Cond.initialized cls).before args s' = true := vx_ot_at hW0 hvm.symm (hgood _ (List.mem_cons_of_mem _ List.mem_cons_self)) hini
  have hU' : vx_Zq Bundle.tN "UNASSIGNED_STACK" Bundle.steD A s' s'.heap := by rw [hhp]; exact vx_Zq.moved hW0.alike (hU.kept hS.2.1)
  have hN' : vx_Zq Bundle.tN "SUPPRESSED_SENTINEL" Bundle.listD A s' s'.heap := by rw [hhp]; exact vx_Zq.moved hW0.alike (hN.kept hS.2.1)
  have h : ∀ w ∈ nse_at own ic cls ix rx names, w.before args s' = true := vx_own hat' (vx_isRefq hU'.1) (vx_isRefq hN'.1) hU'.2.word hN'.2.word
  have hown' : s'.vm.findClass own = some m.cls := by rw [hvm]; exact hown
  have hins : (Cond.instantiable cls 6).before args s' = true := h _ (by simp [nse_at])
  obtain ⟨vm₁, cX, kX, hfX, hkX, -, -, X₁, st1⟩ := Y.newCold hexec (own := own) (C := cls) (index := ik) (n := 6) hown' hk' hins hini'
    (g := F0 m pc ls rest) rfl (by rw [hb]; exact d0) (Nat.le_refl _) (Nat.le_refl _)
  generalize hT1 : (T.setVm vm₁).pushCell { cls := cX, slots := kX.instanceTypes.map defaultValue, vm := .none } = T1 at X₁ st1
  have hcat : (Value.ref T.heap.size).category = 1 := rfl
  have hcellA : T1.heap[T.heap.size]? = some (freshCell cX kX) := by rw [← hT1]; exact State.heap_pushCell_size _ _
  have d3' : decode c.code (pc + 3) = .ok (.dup, 1) := by rw [hb]; exact d3
  have d4' : decode c.code (pc + 4) = .ok (.ldc is, 2) := by rw [hb]; exact d4
  have hstr' : vk_R own is text sa s' := vk_R.warm hW0 hstr
  obtain ⟨V, ce, L, Z, hL, hlt, hcl9, hvm9, st⟩ := nse_ctor x0 x1 x2 x5 X₁ hexec htr (own := own) (cls := cls) (names := names) (ic := ic) hown' hcls hnames h (fun x hx => nomatch hx) hfX hkX hcellA (by rw [hhp]; exact Nat.le_refl _) (msg := .ref sa) rfl
    (g := { method := m, pc := pc + 6, locals := ls, stack := .ref sa :: .ref T.heap.size :: .ref T.heap.size :: rest, locked := none }) rfl hsize (rest := rest) rfl
    (by rw [hb]; exact d6) hRframes (by simp only [List.map_cons, List.sum_cons, hcat]; omega)
  have Z0 := Stand.forget (locs := []) Z (fun y hy => by rw [hL y hy, hhp]; exact Nat.le_refl _)
  obtain ⟨f1, f2⟩ := vx_frame Z0.same
  rw [hhp] at f1 f2
  have hcid : s.vm.findClass cls = some ce.cls := by
    rw [hcl9]
    rw [hvm] at hfX
    exact hfX
  have hh : (V.setCell T.heap.size ce).heap[T.heap.size]? = some ce := heapAt_setCell_self (s := V) ce hlt
  subst hA'
  have X5 := vx_back9 X Y Z0
  have X6 : Stand p l e R s m args below meth c (V.setCell T.heap.size ce) locs (cells + 1) (slots + 6) := { X5 with same := X5.same.mono (by omega) (by omega) }
  obtain ⟨t, a1, b1⟩ := kk T.heap.size ce (V.setCell T.heap.size ce).heap hh hvm9 hcid f1 (fun q h1 => f2 q h1 (fun z hz => nomatch hz)) _ rfl X6
  refine ⟨t, st1 _ ?_, b1⟩
  show Steps p.tables e below (T1.setTop { method := m, pc := pc + 3, locals := ls, stack := .ref T.heap.size :: rest, locked := none }) _
  jvm_step X₁.here [X₁.here.top, hexec, d3', Value.category]
  exact X₁.ldcString hexec (own := own) (text := text) (index := is) (a := sa) hown' hstr'.1 hstr'.2
    (g := { method := m, pc := pc + 4, locals := ls, stack := .ref T.heap.size :: .ref T.heap.size :: rest, locked := none }) rfl d4' _ (st _ a1)
end NSB
end pt_93nse
/- 94.player.lean.txt -/
section pt_94player
def NSE : String := "java/util/NoSuchElementException"
def nseN : List String := ["java/lang/RuntimeException", "java/lang/Exception"]
abbrev nseA : List Cond := nse_at "BorrowedBeat" 155 NSE 13 prog_25_method_4_code nseN
set_option maxRecDepth 100000 in
theorem nseA_in : ∀ w ∈ nseA, vx_no w = true → w ∈ lw_tbl := List.forall_mem_cons.mpr ⟨fun _ => mT1 (List.mem_of_getElem? (i := 17) rfl), List.forall_mem_cons.mpr ⟨fun _ => mT5 (List.mem_of_getElem? (i := 61) rfl), List.forall_mem_cons.mpr ⟨fun _ => mT5 (List.mem_of_getElem? (i := 70) rfl), List.forall_mem_cons.mpr ⟨fun _ => mT5 (List.mem_of_getElem? (i := 72) rfl), List.forall_mem_cons.mpr ⟨fun _ => mT5 (List.mem_of_getElem? (i := 75) rfl), List.forall_mem_cons.mpr ⟨fun _ => mT5 (List.mem_of_getElem? (i := 77) rfl), List.forall_mem_cons.mpr ⟨fun _ => mT5 (List.mem_of_getElem? (i := 62) rfl), List.forall_mem_cons.mpr ⟨fun _ => mT5 (List.mem_of_getElem? (i := 63) rfl), List.forall_mem_cons.mpr ⟨fun _ => mT1 (List.mem_of_getElem? (i := 28) rfl), List.forall_mem_cons.mpr ⟨fun _ => mT1 (List.mem_of_getElem? (i := 29) rfl), List.forall_mem_cons.mpr ⟨fun _ => mT5 (List.mem_of_getElem? (i := 64) rfl), List.forall_mem_cons.mpr ⟨fun _ => mT5 (List.mem_of_getElem? (i := 69) rfl), List.forall_mem_cons.mpr ⟨fun _ => mT5 (List.mem_of_getElem? (i := 73) rfl), List.forall_mem_cons.mpr ⟨fun _ => mT5 (List.mem_of_getElem? (i := 93) rfl), List.forall_mem_cons.mpr ⟨fun _ => mT5 (List.mem_of_getElem? (i := 51) rfl), List.forall_mem_cons.mpr ⟨fun _ => mT5 (List.mem_of_getElem? (i := 94) rfl), List.forall_mem_cons.mpr ⟨fun _ => mT5 (List.mem_of_getElem? (i := 53) rfl), List.forall_mem_cons.mpr ⟨fun _ => mT5 (List.mem_of_getElem? (i := 95) rfl), List.forall_mem_cons.mpr ⟨fun _ => mT5 (List.mem_of_getElem? (i := 55) rfl), List.forall_mem_cons.mpr ⟨fun _ => mT5 (List.mem_of_getElem? (i := 65) rfl), List.forall_mem_cons.mpr ⟨fun _ => mT5 (List.mem_of_getElem? (i := 66) rfl), List.forall_mem_cons.mpr ⟨fun _ => mT5 (List.mem_of_getElem? (i := 67) rfl), List.forall_mem_cons.mpr ⟨fun _ => mT5 (List.mem_of_getElem? (i := 68) rfl), List.forall_mem_cons.mpr ⟨fun _ => mT5 (List.mem_of_getElem? (i := 57) rfl), List.forall_mem_cons.mpr ⟨fun _ => mT5 (List.mem_of_getElem? (i := 89) rfl), List.forall_mem_cons.mpr ⟨fun _ => mT5 (List.mem_of_getElem? (i := 90) rfl), List.forall_mem_cons.mpr ⟨fun _ => mT5 (List.mem_of_getElem? (i := 92) rfl), List.forall_mem_cons.mpr ⟨fun _ => mT5 (List.mem_of_getElem? (i := 57) rfl), List.forall_mem_cons.mpr ⟨fun _ => mT5 (List.mem_of_getElem? (i := 80) rfl), List.forall_mem_cons.mpr ⟨fun _ => mT5 (List.mem_of_getElem? (i := 81) rfl), List.forall_mem_cons.mpr ⟨fun _ => mT5 (List.mem_of_getElem? (i := 82) rfl), List.forall_mem_cons.mpr ⟨fun _ => mT5 (List.mem_of_getElem? (i := 83) rfl), List.forall_mem_cons.mpr ⟨fun _ => mT5 (List.mem_of_getElem? (i := 43) rfl), List.forall_mem_cons.mpr ⟨fun _ => mT5 (List.mem_of_getElem? (i := 83) rfl), List.forall_mem_cons.mpr ⟨fun _ => mT5 (List.mem_of_getElem? (i := 84) rfl), List.forall_mem_cons.mpr ⟨fun _ => mT5 (List.mem_of_getElem? (i := 85) rfl), List.forall_mem_cons.mpr ⟨fun _ => mT5 (List.mem_of_getElem? (i := 86) rfl), List.forall_mem_cons.mpr ⟨fun _ => mT5 (List.mem_of_getElem? (i := 45) rfl), List.forall_mem_cons.mpr ⟨fun _ => mT5 (List.mem_of_getElem? (i := 86) rfl), List.forall_mem_cons.mpr ⟨fun _ => mT5 (List.mem_of_getElem? (i := 87) rfl), List.forall_mem_cons.mpr ⟨fun _ => mT5 (List.mem_of_getElem? (i := 88) rfl), List.forall_mem_cons.mpr ⟨fun _ => mT5 (List.mem_of_getElem? (i := 89) rfl), List.forall_mem_cons.mpr ⟨fun _ => mT5 (List.mem_of_getElem? (i := 47) rfl), List.forall_mem_cons.mpr ⟨fun _ => mT5 (List.mem_of_getElem? (i := 79) rfl), List.forall_mem_cons.mpr ⟨fun _ => mT5 (List.mem_of_getElem? (i := 40) rfl), List.forall_mem_cons.mpr ⟨fun _ => mT5 (List.mem_of_getElem? (i := 41) rfl), List.forall_mem_cons.mpr ⟨fun _ => mT5 (List.mem_of_getElem? (i := 48) rfl), List.forall_mem_cons.mpr ⟨fun _ => mT5 (List.mem_of_getElem? (i := 49) rfl), List.forall_mem_cons.mpr ⟨fun _ => mT5 (List.mem_of_getElem? (i := 50) rfl), List.forall_mem_cons.mpr ⟨fun _ => mT5 (List.mem_of_getElem? (i := 52) rfl), List.forall_mem_cons.mpr ⟨fun _ => mT5 (List.mem_of_getElem? (i := 54) rfl), List.forall_mem_cons.mpr ⟨fun _ => mT5 (List.mem_of_getElem? (i := 56) rfl), List.forall_mem_cons.mpr ⟨fun h => absurd h (by decide +kernel), List.forall_mem_cons.mpr ⟨fun h => absurd h (by decide +kernel), List.forall_mem_cons.mpr ⟨fun _ => mT5 (List.mem_of_getElem? (i := 60) rfl), List.forall_mem_cons.mpr ⟨fun _ => mT5 (List.mem_of_getElem? (i := 59) rfl), List.forall_mem_cons.mpr ⟨fun _ => mT5 (List.mem_of_getElem? (i := 58) rfl), fun _ h => absurd h List.not_mem_nil⟩⟩⟩⟩⟩⟩⟩⟩⟩⟩⟩⟩⟩⟩⟩⟩⟩⟩⟩⟩⟩⟩⟩⟩⟩⟩⟩⟩⟩⟩⟩⟩⟩⟩⟩⟩⟩⟩⟩⟩⟩⟩⟩⟩⟩⟩⟩⟩⟩⟩⟩⟩⟩⟩⟩⟩⟩
theorem nse_x0 : decode prog_25_method_4_code 0 = .ok (.aload_n 0, 1) := by decide +kernel
theorem nse_x1 : decode prog_25_method_4_code 1 = .ok (.aload_n 1, 1) := by decide +kernel
theorem nse_x2 : decode prog_25_method_4_code 2 = .ok (.invokespecial 13, 3) := by decide +kernel
theorem nse_x5 : decode prog_25_method_4_code 5 = .ok (.return_, 1) := by decide +kernel
theorem nse_k : Cond.classLink "BorrowedBeat" 151 NSE ∈ lw_tbl := mT5 (List.mem_of_getElem? (i := 39) rfl)
theorem nse_i : Cond.initialized NSE ∈ lw_tbl := mT1 (List.mem_of_getElem? (i := 20) rfl)
set_option maxRecDepth 100000 in
theorem nse_good : ∀ w ∈ Cond.classLink "BorrowedBeat" 151 NSE :: Cond.initialized NSE :: nse_atS "BorrowedBeat" 155 NSE 13 prog_25_method_4_code nseN, (goodWord w || (nW w && w.onTables)) = true ∧ vx_ot w = true := by
  have h : (Cond.classLink "BorrowedBeat" 151 NSE :: Cond.initialized NSE :: nse_atS "BorrowedBeat" 155 NSE 13 prog_25_method_4_code nseN).all (fun w => (goodWord w || (nW w && w.onTables)) && vx_ot w) = true := by decide +kernel
  intro w hw
  have := List.all_eq_true.mp h w hw
  simp only [Bool.and_eq_true] at this
  exact this
theorem nse_cl : Cond.classLink "BorrowedBeatLaw" 13 NSE ∈ uw := List.mem_filter.mpr ⟨List.mem_append_left _ (mT5 (List.mem_of_getElem? (i := 34) rfl)), by decide +kernel⟩
theorem nse_ca : Cond.castable NSE NSE ∈ nw := List.mem_filter.mpr ⟨mT5 (List.mem_of_getElem? (i := 41) rfl), rfl⟩
/-! WHAT A THROW NEEDS, beside the words: two texts, two statics of Throwable -/
def XU (A : Nat → Prop) (U : State) (H : Heap) : Prop := (∃ s1 : Nat, vk_R "BorrowedBeat" 153 "no such PLAYER" s1 U) ∧ (∃ s2 : Nat, vk_R "BorrowedBeat" 177 "no such thing of a PLAYER" s2 U) ∧ vx_Zq Bundle.tN "UNASSIGNED_STACK" Bundle.steD A U H ∧ vx_Zq Bundle.tN "SUPPRESSED_SENTINEL" Bundle.listD A U H
theorem XU.go {A B : Nat → Prop} {s U : State} {H : Heap} (h : XU A s s.heap) (hW : s.WarmedH U.vm) (hk : ∀ a : Nat, a < s.heap.size → ¬ A a → H[a]? = s.heap[a]?) (hAB : ∀ q, B q → A q) : XU B U H := by
  obtain ⟨⟨s1, h1⟩, ⟨s2, h2⟩, h3, h4⟩ := h
  exact ⟨⟨s1, vk_R.warm hW h1⟩, ⟨s2, vk_R.warm hW h2⟩, ((h3.kept hk).moved hW.alike).narrow hAB, ((h4.kept hk).moved hW.alike).narrow hAB⟩
theorem XU.same {A : Nat → Prop} {u U : State} {H : Heap} (h : XU A u H) (hvm : u.vm = U.vm) : XU A U H := by
  obtain ⟨⟨s1, h1⟩, ⟨s2, h2⟩, h3, h4⟩ := h
  have hal : u.vm.Alike U.vm := by rw [hvm]; exact Vm.Alike.refl _
  exact ⟨⟨s1, vk_R.same hvm.symm h1⟩, ⟨s2, vk_R.same hvm.symm h2⟩, h3.moved hal, h4.moved hal⟩
def PcX (D : va_G) (G : GG) (av : List AV) (ws : EW) (sz : Nat) : Array Value → State → Prop := fun a U => PcA D G av ws sz a U ∧ XU (va_A (tW G ws) sz) U U.heap
def XQ (D : va_G) (G : GG) (A : Nat → Prop) (ws : EW) (px : Prop) : String → State → State → Prop := vx_X (fun _ : Unit => px) (fun E _ t => E = NSE ∧ BW D G A ws t) A
def vxM (l : Launch) (y : MethodName) (b : ByteArray) (n : Nat) (ret : FieldType) (d mc ms : Nat) (av : List AV) (ws : EW) (Post : Int → EW → Prop) (px : Prop) : Prop :=
  ∀ (D : va_G) (G : GG) (sz : Nat), vx_Met l y (.code y b n (some ret) :: uw) (rmD d mc ms) (PcX D G av ws sz) (QcI D G (va_A (tW G ws) sz) Post) (XQ D G (va_A (tW G ws) sz) ws px) mc ms (va_A (tW G ws) sz)
section XB
variable {l : Launch} {y : MethodName} {b : ByteArray} {n d mc ms : Nat} {av : List AV} {ws : EW}
theorem vxM.of {ret : FieldType} {Post : Int → EW → Prop} {px : Prop} (hy : plainName y.cls = true) (hn : av.length ≤ n)
    (body : ∀ (D : va_G) (G : GG) (A : Nat → Prop) (p : Program) (e : Env) (s : State) (m : MethodId) (args : Array Value) (below : List Frame) (meth : Method) (c : Code), (∀ x ∈ c.exceptionTable.toList, False) → XU A s s.heap → Cx p s m args meth c D G A b n (some ret) y.cls →
      S_ p l e (rmD d mc ms) s m args below meth c (vx_MQ below (QcI D G A Post) (XQ D G A ws px) args s mc ms A) D G A n 0 0 0 (aL av) [] ws) : vxM l y b n ret d mc ms av ws Post px := by
  intro D G sz
  refine vx_ofW (cc := b) (maxL := n) (ret := some ret) hy rfl ?_
  intro p e s m args below meth c s₁ B hml hex hv
  obtain ⟨⟨rfl, hsz, hP, hK, hD0, hE⟩, hU⟩ := hv
  have hts := atoms_spec (ws := Cond.code y b n (some ret) :: uw) B.pre
  have hown : s.vm.findClass y.cls = some m.cls := findClass_of_methodNamed B.named
  subst hsz
  have X : Cx p s m ((av.map tV).toArray) meth c D G (va_A (tW G ws) s.heap.size) b n (some ret) y.cls := ⟨B.exec, B.bytes, hml, hown, fun w h => hts w (List.mem_cons_of_mem _ h), hK, fun q h => Or.inr h, hE, B.returns, B.notSynchronized⟩
  rw [lg_entry_eq]
  exact body D G _ p e s m _ below meth c hex hU X s.heap [] _ hP hD0.self va_S.rf (LH.entry av hn)
end XB
section XR
variable {p : Program} {l : Launch} {e : Env} {R : Room} {s : State} {m : MethodId} {args : Array Value} {below : List Frame} {meth : Method} {c : Code} {Q : State → Prop} {D : va_G} {G : GG} {A : Nat → Prop} {cc : ByteArray} {nL cells slots pc : Nat} {rt : Option FieldType} {own : String} {L : Nat → Option AV} {st : List AV} {ws : EW}
theorem S_vx {Qc : Array Value → State → Outcome → State → Prop} {XC : String → State → State → Prop} {mc ms : Nat} {free : Addr → Prop} (k : S_ p l e R s m args below meth c (MQ below Qc args s mc ms free) D G A nL cells slots pc L st ws) : S_ p l e R s m args below meth c (vx_MQ below Qc XC args s mc ms free) D G A nL cells slots pc L st ws :=
  fun H locs ls hP hD hS hl => vx_ret (k H locs ls hP hD hS hl)
theorem lw_at {A : Nat → Prop} {w : Cond} (h1 : w ∈ lw_tbl) (h2 : (goodWord w || (nW w && w.onTables)) = true) (h3 : ∀ w ∈ uw, w.before args s = true) (h4 : Ev A s s.heap) : w.before args s = true := by
  rcases Bool.or_eq_true _ _ |>.mp h2 with h | h
  · exact h3 w (List.mem_filter.mpr ⟨List.mem_append_left _ h1, h⟩)
  · have h6 := Bool.and_eq_true _ _ |>.mp h
    exact va_Nw.use h6.2 (h4.1 _ (List.mem_filter.mpr ⟨h1, h6.1⟩))
/-- 'throw new NoSuchElementException("..")' -/
theorem S_throw {Post : Int → EW → Prop} {px : Prop} {mc ms : Nat} (X : Cx p s m args meth c D G A cc nL rt "BorrowedBeat") (hex : ∀ x ∈ c.exceptionTable.toList, False) (hU : XU A s s.heap) (hl : l.stackTraces = false) {tx : String} {is sa : Nat} (hstr : vk_R "BorrowedBeat" is tx sa s) (d0 : decode cc pc = .ok (.new 151, 3)) (d3 : decode cc (pc + 3) = .ok (.dup, 1)) (d4 : decode cc (pc + 4) = .ok (.ldc is, 2)) (d6 : decode cc (pc + 6) = .ok (.invokespecial 155, 3)) (d9 : decode cc (pc + 9) = .ok (.athrow, 1)) (hRf : 5 < R.frames) (hRl : st.length + 82 ≤ R.locals) (hRc : cells + 1 ≤ R.cells) (hRs : slots + 6 ≤ R.slots) (hc : cells + 1 ≤ mc) (hs : slots + 6 ≤ ms) (hp : px) :
    S_ p l e R s m args below meth c (vx_MQ below (QcI D G A Post) (XQ D G A ws px) args s mc ms A) D G A nL cells slots pc L st ws := by
  intro H locs ls hP hD hS hl2
  have hw : ∀ w ∈ Cond.classLink "BorrowedBeat" 151 NSE :: Cond.initialized NSE :: nse_atS "BorrowedBeat" 155 NSE 13 prog_25_method_4_code nseN, w.before args s = true := by
    intro w hw
    have hg := (nse_good w hw).1
    refine lw_at ?_ hg X.2.2.2.2.1 X.2.2.2.2.2.2.2.1
    rcases List.mem_cons.mp hw with rfl | hw
    · exact nse_k
    · rcases List.mem_cons.mp hw with rfl | hw
      · exact nse_i
      · have h9 := List.mem_filter.mp hw
        exact nseA_in w h9.1 h9.2
  refine nse_make nse_x0 nse_x1 nse_x2 nse_x5 X.1 X.2.1 hl (names := nseN) (own := "BorrowedBeat") (cls := NSE) (sa := sa) (A := A) X.2.2.2.1 (by decide +kernel) (by decide +kernel) (hw _ (by simp)) (hw _ (by simp)) hstr (fun w h => hw w (by simp [h])) (fun w h => (nse_good w h).2) hU.2.2.1 hU.2.2.2 hS (hl2.1.trans X.2.2.1.symm) d0 d3 d4 d6 ?_ ?_ hRc hRs (fun q ce H1 h1 h2 h3 h4 h5 => ?_)
  · show 2 + 3 < R.frames
    exact hRf
  · have e : ((st.map tV).map fun v => v.category).sum = st.length := by
      clear hRl
      induction st with
      | nil => rfl
      | cons v t ih => simp only [List.map_cons, List.sum_cons, List.length_cons, ih, tV_cat]; omega
    rw [e]
    show st.length + (13 * (2 + 1) + 43) ≤ R.locals
    omega
  · refine vx_athrow X.1 X.2.1 d9 (vx_out (fun x hx => (hex x hx).elim) X.2.2.2.2.2.2.2.2.2 h1 h2 h3 (fun t ht hal => ⟨(), hp, ⟨rfl, ?_, va_K.moved hal X.2.2.2.2.2.1, hD⟩, ?_⟩) hS.2.2 hc hs)
    · rw [ht]
      exact hP.kept (fun k x hx => h5 x.1 (hP k x hx).lt)
    · refine ⟨by rw [ht]; exact Nat.le_trans hS.1 h4, fun q0 a1 a2 => ?_⟩
      rw [ht, h5 q0 (Nat.lt_of_lt_of_le a1 hS.1)]
      exact hS.2.1 q0 a1 a2
end XR
section XC
variable {p : Program} {l : Launch} {e : Env} {R : Room} {s : State} {m : MethodId} {args : Array Value} {below : List Frame} {meth : Method} {c : Code} {Q : State → Prop} {D : va_G} {G : GG} {A : Nat → Prop} {cc : ByteArray} {nL cells slots pc : Nat} {rt : Option FieldType} {own : String} {L : Nat → Option AV} {st : List AV}
variable {y : MethodName} {b : ByteArray} {n d mc ms idx k : Nat} {a0 : Nat} {av avs rest : List AV} {wa wb : EW} {ret1 : FieldType} {Post : Int → EW → Prop} {px : Prop}
theorem pcX_blind {sz : Nat} {wc : EW} : FrameBlind (PcX D G av wc sz) := fun a U g mk h => ⟨pcA_blind a U g mk h.1, XU.same h.2 rfl⟩
/-- a call of a method that may throw, caught here -/
theorem S_callX (X : Cx p s m args meth c D G A cc nL rt own) (hU : XU A s s.heap) (hM : vxM l y b n ret1 d mc ms (rv a0 :: avs) wa Post px) (K : LkV own idx y b n (some ret1) k) (q0 : Nat) {ci : Nat} {f : Nat → AV} (hr : (wa ++ wb)[q0]? = some (a0, ob ci f)) (hcl : (vwCl[ci]?).map (fun r => r.1) = some y.cls) (hst : st = avs.reverse ++ rv a0 :: rest) (hk : avs.length = k) (h8 : rest.length ≤ 8) (hR : d + 1 ≤ R.frames ∧ 8 + (n + 11) + 40 * d ≤ R.locals) (hcs : cells + mc ≤ R.cells ∧ slots + ms ≤ R.slots) (hdg : decode cc pc = .ok (.invokevirtual idx, 3))
    (x : ExceptionTableEntry) (hsplit : c.exceptionTable.toList = [] ++ x :: []) (hx : covers x pc = true) (h0 : x.catchType ≠ 0) (hlink : Cond.classLink own x.catchType NSE ∈ uw) (kx : px → ∀ q9 : Nat, S_ p l e R s m args below meth c Q D G A nL (cells + mc) (slots + ms) x.handlerPc L [rv q9] (wb ++ wa))
    (kk : ∀ (z : Int) (u : EW), Post z u → S_ p l e R s m args below meth c Q D G A nL (cells + mc) (slots + ms) (pc + 3) L (iv z :: rest) (u ++ wb)) : S_ p l e R s m args below meth c Q D G A nL cells slots pc L st (wa ++ wb) := by
  intro H locs ls hP hD hS hl
  have hC := rg_L (wa := wa) (wb := wb)
  have hRt : (rgM wa.length wb.length).map (fun i => (wa ++ wb)[i]?) = wb.map some := by
    have h := rg_M (wa := wa) (wb := wb) (wo := [])
    rw [List.append_nil] at h
    exact h
  have hdis : ∀ i ∈ rgM wa.length wb.length, i ∉ List.range wa.length := by
    intro i hi hm
    obtain ⟨j, -, hj⟩ := List.mem_map.mp hi
    have := List.mem_range.mp hm
    omega
  have hF := va_free (wc := tW G wa) hD hS X.2.2.2.2.2.2.1 (List.range wa.length) (cut_tW hC)
  obtain ⟨⟨k1, k2, k3, k4, k5⟩, k6⟩ := K
  have hcast : (Cond.castable NSE NSE).before args s = true := va_Nw.use rfl (X.2.2.2.2.2.2.2.1.1 _ nse_ca)
  cases hq : vwCl[ci]? with
  | none => rw [hq] at hcl; cases hcl
  | some r =>
    rw [hq] at hcl
    have hr1 : r.1 = y.cls := Option.some.inj hcl
    have hrecv := va_recv X.2.2.2.2.2.1 hP hq (tW_at hr)
    rw [hr1] at hrecv
    refine vx_calli (vx_runV (C := y.cls) (n := k) (As := avs.map tV) (rest := rest.map tV) (cx_fix X) (hM D G H.size) (cwV k X.2.2.2.2.1 (uw_goods (fun w hw => by
        rcases List.mem_append.mp hw with h | h
        · simp only [List.mem_cons, List.not_mem_nil, or_false] at h
          rcases h with rfl | rfl | rfl | rfl <;> assumption
        · exact (uw_cons k5 w h).1)) rfl rfl rfl ⟨rfl, k6⟩ hR) ⟨pcX_blind, hrecv, fun U hUh hW => ⟨pcA_ok (av := rv a0 :: avs) X hP hD hS (rg_nd _) hC U hUh hW, by
          rw [hUh]
          exact XU.go hU hW (fun a h1 h2 => hS.2.1 a h1 h2) hF⟩⟩ rfl (by rw [List.length_map]; exact hk) hl.1 (stk_V hst) (room8 h8) hdg hcs) hS (fun q _ h => hF q h) hF (fun q _ h => hF q h) (fun E ce q9 u t H1 locs1 ht hal hp hB hz1 hk1 hS1 hce hcv hcl9 => ?_) (fun r u t H1 locs1 ht hvm hw hB hz1 hk1 hS1 => ?_)
    · obtain ⟨rfl, hP1, hK1, hD1⟩ := hB
      rw [ht] at hP1
      obtain ⟨hP2, hD2⟩ := va_join hP hD (List.range wa.length) (rgM wa.length wb.length) (cut_tW hC) (cut_tW hRt) (rgM_nd _ _) hdis hk1 hF hP1 hD1
      have e : tW G wb ++ tW G wa = tW G (wb ++ wa) := by unfold tW; rw [List.map_append]
      rw [e] at hP2 hD2
      exact vx_catch X.2.2.2.1 [] x [] hsplit (fun z hz => absurd hz List.not_mem_nil) hx h0 (X.2.2.2.2.1 _ hlink) hcast hce hcv hcl9 (kx hp q9 H1 locs1 ls hP2 hD2 hS1 hl)
    · obtain ⟨z, rfl, hp⟩ := hw
      obtain ⟨hP1, hK1, hD1⟩ := hB
      rw [ht] at hP1
      obtain ⟨hP2, hD2⟩ := va_join hP hD (List.range wa.length) (rgM wa.length wb.length) (cut_tW hC) (cut_tW hRt) (rgM_nd _ _) hdis hk1 hF hP1 hD1
      have e : tW G wb ++ tW G u = tW G (wb ++ u) := by unfold tW; rw [List.map_append]
      rw [e] at hP2 hD2
      exact S_perm (List.perm_append_comm) (kk z u hp) H1 locs1 ls hP2 hD2 hS1 hl
end XC
/-! A METHOD WITH A HANDLER, that doesn't throw -/
def AMx (l : Launch) (y : MethodName) (b : ByteArray) (n : Nat) (ret : FieldType) (hh : List (Nat × Nat × Nat × Nat)) (d mc ms : Nat) (av : List AV) (ws : EW) (Post : Int → EW → Prop) : Prop :=
  ∀ (D : va_G) (G : GG) (sz : Nat), Met l y (.codeWith y b n (some ret) hh :: uw) (rmD d mc ms) (PcX D G av ws sz) (QcI D G (va_A (tW G ws) sz) Post) mc ms (va_A (tW G ws) sz)
section XH
variable {l : Launch} {y : MethodName} {b : ByteArray} {n d mc ms : Nat} {av : List AV} {ws : EW} {hh : List (Nat × Nat × Nat × Nat)}
theorem AMx.of {ret : FieldType} {Post : Int → EW → Prop} (hy : plainName y.cls = true) (hn : av.length ≤ n)
    (body : ∀ (D : va_G) (G : GG) (A : Nat → Prop) (p : Program) (e : Env) (s : State) (m : MethodId) (args : Array Value) (below : List Frame) (meth : Method) (c : Code), c.exceptionTable.toList = tableOf hh → XU A s s.heap → Cx p s m args meth c D G A b n (some ret) y.cls →
      S_ p l e (rmD d mc ms) s m args below meth c (MQ below (QcI D G A Post) args s mc ms A) D G A n 0 0 0 (aL av) [] ws) : AMx l y b n ret hh d mc ms av ws Post := by
  intro D G sz
  have key : vx_Met l y (.codeWith y b n (some ret) hh :: uw) (rmD d mc ms) (PcX D G av ws sz) (QcI D G (va_A (tW G ws) sz) Post) (fun _ _ _ => False) mc ms (va_A (tW G ws) sz) := by
    refine vx_ofWH (cc := b) (maxL := n) (ret := some ret) (hh := hh) hy rfl ?_
    intro p e s m args below meth c s₁ B hml hv
    obtain ⟨⟨rfl, hsz, hP, hK, hD0, hE⟩, hU⟩ := hv
    have hts := atoms_spec (ws := Cond.codeWith y b n (some ret) hh :: uw) B.pre
    have hown : s.vm.findClass y.cls = some m.cls := findClass_of_methodNamed B.named
    have htab := vx_table (x := y) B (hts _ List.mem_cons_self)
    subst hsz
    have X : Cx p s m ((av.map tV).toArray) meth c D G (va_A (tW G ws) s.heap.size) b n (some ret) y.cls := ⟨B.exec, B.bytes, hml, hown, fun w h => hts w (List.mem_cons_of_mem _ h), hK, fun q h => Or.inr h, hE, B.returns, B.notSynchronized⟩
    rw [lg_entry_eq]
    exact vx_ret (body D G _ p e s m _ below meth c htab hU X s.heap [] _ hP hD0.self va_S.rf (LH.entry av hn))
  intro p e h1 h2 h3 s m args below h4 h5 h6 h7
  obtain ⟨k, o, a1, a2, a3, a4⟩ := key p e h1 h2 h3 s m args below h4 h5 h6 h7
  rcases a4 with a4 | ⟨q, -, E, ce, L, hF, -⟩
  · exact ⟨k, o, a1, a2, a3, a4⟩
  · exact hF.elim
end XH
section XS
variable {p : Program} {l : Launch} {e : Env} {R : Room} {s : State} {m : MethodId} {args : Array Value} {below : List Frame} {meth : Method} {c : Code} {Q : State → Prop} {D : va_G} {G : GG} {A : Nat → Prop} {cc : ByteArray} {nL cells slots pc : Nat} {rt : Option FieldType} {own : String} {L : Nat → Option AV} {st : List AV}
variable {y : MethodName} {b : ByteArray} {n d mc ms idx k : Nat} {avs rest : List AV} {wa wb : EW} {ret1 : FieldType} {Post : Int → EW → Prop} {hh : List (Nat × Nat × Nat × Nat)}
/-- a static call of it -/
theorem S_callH (X : Cx p s m args meth c D G A cc nL rt own) (hU : XU A s s.heap) (hM : AMx l y b n ret1 hh d mc ms avs wa Post) (K : (Cond.methodLink own idx y ∈ uw ∧ Cond.static y ∈ uw ∧ Cond.initialized y.cls ∈ uw ∧ Cond.codeWith y b n (some ret1) hh ∈ uw) ∧ okD y k) (hst : st = avs.reverse ++ rest) (hk : avs.length = k) (h8 : rest.length ≤ 8) (hR : d + 1 ≤ R.frames ∧ 8 + (n + 11) + 40 * d ≤ R.locals) (hcs : cells + mc ≤ R.cells ∧ slots + ms ≤ R.slots) (hdg : decode cc pc = .ok (.invokestatic idx, 3))
    (kk : ∀ (z : Int) (u : EW), Post z u → S_ p l e R s m args below meth c Q D G A nL (cells + mc) (slots + ms) (pc + 3) L (iv z :: rest) (u ++ wb)) : S_ p l e R s m args below meth c Q D G A nL cells slots pc L st (wa ++ wb) := by
  intro H locs ls hP hD hS hl
  have hC := rg_L (wa := wa) (wb := wb)
  have hRt : (rgM wa.length wb.length).map (fun i => (wa ++ wb)[i]?) = wb.map some := by
    have h := rg_M (wa := wa) (wb := wb) (wo := [])
    rw [List.append_nil] at h
    exact h
  have hdis : ∀ i ∈ rgM wa.length wb.length, i ∉ List.range wa.length := by
    intro i hi hm
    obtain ⟨j, -, hj⟩ := List.mem_map.mp hi
    have := List.mem_range.mp hm
    omega
  have hF := va_free (wc := tW G wa) hD hS X.2.2.2.2.2.2.1 (List.range wa.length) (cut_tW hC)
  obtain ⟨⟨k1, k2, k3, k5⟩, k6⟩ := K
  have huc : GoodIn uw (Cond.codeWith y b n (some ret1) hh :: uw) := uw_goods (fun w hw => (List.mem_cons.mp hw).elim (fun e => e ▸ k5) id)
  refine va_calli (vx_runSW (n := k) (As := avs.map tV) (rest := rest.map tV) (cx_fix X) (hM D G H.size) (vx_cwSW k X.2.2.2.2.1 (uw_goods (fun w hw => by
        rcases List.mem_append.mp hw with h | h
        · simp only [List.mem_cons, List.not_mem_nil, or_false] at h
          rcases h with rfl | rfl | rfl <;> assumption
        · exact (huc w h).1)) rfl rfl rfl k6 hR) ⟨pcX_blind, fun U hUh hW => ⟨pcA_ok X hP hD hS (rg_nd _) hC U hUh hW, by
          rw [hUh]
          exact XU.go hU hW (fun a h1 h2 => hS.2.1 a h1 h2) hF⟩⟩ rfl (by rw [List.length_map]; exact hk) hl.1 (stk_S hst) (room8 h8) hdg hcs) hS (fun q _ h => hF q h) hF (fun r u t H1 locs1 ht hvm hw hB hz1 hk1 hS1 => ?_)
  obtain ⟨z, rfl, hp⟩ := hw
  obtain ⟨hP1, hK1, hD1⟩ := hB
  rw [ht] at hP1
  obtain ⟨hP2, hD2⟩ := va_join hP hD (List.range wa.length) (rgM wa.length wb.length) (cut_tW hC) (cut_tW hRt) (rgM_nd _ _) hdis hk1 hF hP1 hD1
  have e : tW G wb ++ tW G u = tW G (wb ++ u) := by unfold tW; rw [List.map_append]
  rw [e] at hP2 hD2
  exact S_perm (List.perm_append_comm) (kk z u hp) H1 locs1 ls hP2 hD2 hS1 hl
end XS
end pt_94player
/- 95.pl.lean.txt -/
section pt_95pl
def QX11_isPlayer (a : Nat → Nat) (v : Nat → Int) (g : Nat → Int → Int) (R : Int → Int → Int) (ds : List LwS) (ys : Nat → LwY) (y1 : Int) (z : Int) (u : EW) : Prop := (z = 0 ∧ u = CW a v g R ds ys ∧ (y1 < 0 ∨ (v 13) ≤ y1)) ∨ (z = 1 ∧ u = CW a v g R ds ys ∧ (0 ≤ y1 ∧ y1 < (v 13)))
set_option maxRecDepth 100000 in
set_option maxHeartbeats 4000000 in
theorem qX11_isPlayer (l : Launch) (a : Nat → Nat) (v : Nat → Int) (g : Nat → Int → Int) (R : Int → Int → Int) (ds : List LwS) (ys : Nat → LwY) (y1 : Int) (hpl : 0 ≤ (v 13) ∧ (v 13) ≤ 6) (hq : inR y1) : AMi l yX11_isPlayer cX11_isPlayer 2 .boolean 0 0 0 [rv (a 19), iv y1] (CW a v g R ds ys) (QX11_isPlayer a v g R ds ys y1) := by
  have hk := (kX11_isPlayer l (a 19) (o10 a v) (a 31) (o7w a v) (v 13) y1 rfl rfl hpl hq)
  refine AMi.gL (wl := CF a v g R ds) (is := [19, 31]) [0, 1, 2, 3, 4, 5, 6, 7, 8, 9, 10, 11, 12, 13, 14, 15, 16, 17, 18, 20, 21, 22, 23, 24, 25, 26, 27, 28, 29, 30, 32, 33, 34, 35, 36, 37, 38, 39, 40, 41, 42, 43, 44] 45 hk rfl rfl (by decide +kernel) (by decide +kernel) (fun z u hq => ?_)
  rcases hq with ⟨hz, hu, hp⟩ | ⟨hz, hu, hp⟩
  · subst hu
    exact ⟨rfl, CF a v g R ds, rfl, rfl, CF_rest (by decide) rfl, Or.inl ⟨hz, rfl, hp⟩⟩
  · subst hu
    exact ⟨rfl, CF a v g R ds, rfl, rfl, CF_rest (by decide) rfl, Or.inr (⟨hz, rfl, hp⟩)⟩
/-- what player answers -/
def pl11 (v : Nat → Int) (g : Nat → Int → Int) (p k : Int) : Int := if k = 0 then g 38 p else if k = 1 then g 32 p else if k = 2 then g 33 p else if k = 3 then g 34 p else if k = 4 then g 39 p else if k = 5 then g 40 p else g 41 p
def plOk (v : Nat → Int) (p k : Int) : Prop := (0 ≤ p ∧ p < v 13) ∧ 0 ≤ k ∧ k ≤ 6
set_option maxRecDepth 100000 in
set_option maxHeartbeats 4000000 in
theorem kX11_player (l : Launch) (hl : l.stackTraces = false) (a : Nat → Nat) (v : Nat → Int) (g : Nat → Int → Int) (R : Int → Int → Int) (ds : List LwS) (ys : Nat → LwY) (y1 y2 : Int) (hpl : 0 ≤ v 13 ∧ v 13 ≤ 6) (r1 : inR y1) (r2 : inR y2) : vxM l yX11_player cX11_player 3 .int 6 1 6 [rv (a 19), iv y1, iv y2] (CW a v g R ds ys) (fun z u => u = CW a v g R ds ys ∧ plOk v y1 y2 ∧ z = pl11 v g y1 y2) (¬ plOk v y1 y2) := by
  refine vxM.of rfl (nle rfl) ?_
  intro D G A p e s m args below meth c hex hU X
  refine S_aload_n X dX11_player_0 rfl rfl ?_
  refine S_iload_n X dX11_player_1 rfl rfl ?_
  refine S_w (ws' := CW a v g R ds ys ++ []) (List.append_nil _).symm ?_
  refine S_callL X (qX11_isPlayer l a v g R ds ys y1 hpl r1) (run_V X lkX11_147 19 rfl rfl (is := List.range (CW a v g R ds ys).length) (avs := [iv y1]) (rest := []) rfl rfl (nle rfl) ⟨nle rfl, nle rfl⟩ ⟨nle rfl, nle rfl⟩ dX11_player_2 (rg_nd _) rg_L) (fun z u hq => ?_)
  rcases hq with ⟨hz, hu, hq⟩ | ⟨hz, hu, hq⟩
  · subst hz
    subst hu
    refine S_w (ws' := CW a v g R ds ys) (List.append_nil _) ?_
    refine S_if_ne (tgt := 18) X dX11_player_5 (by decide) (by decide) (fun h9 => absurd rfl h9) (fun _ => ?_)
    obtain ⟨⟨s1, h1⟩, ⟨s2, h2⟩, -⟩ := id hU
    exact S_throw X hex hU hl h1 dX11_player_8 dX11_player_11 dX11_player_12 dX11_player_14 dX11_player_17 (nle rfl) (nle rfl) (nle rfl) (nle rfl) (nle rfl) (nle rfl) (fun h9 => by unfold plOk at h9; omega)
  · subst hz
    subst hu
    refine S_w (ws' := CW a v g R ds ys) (List.append_nil _) ?_
    refine S_if_ne (tgt := 18) X dX11_player_5 (by decide) (by decide) (fun _ => ?_) (fun h9 => absurd h9 (by decide))
    refine S_iload_n X dX11_player_18 rfl rfl ?_
    by_cases hs0 : y2 = 0
    · refine S_tswIn (j := 0) (tgt := 60) X dX11_player_19 hs0 rfl (by decide) (by decide) ?_
      refine S_aload_n X dX11_player_60 rfl rfl ?_
      refine S_get (v := rv (a 37)) X fgX11_59_10 19 rfl rfl dX11_player_61 ?_
      refine S_get (v := rv (a 38)) X fgX11_158_5 37 rfl rfl dX11_player_64 ?_
      refine S_iload_n X dX11_player_67 rfl rfl ?_
      refine S_iald X 38 rfl (by omega) (by omega) (nle rfl) dX11_player_68 ?_
      refine S_vx (S_iret X (nle rfl) (nle rfl) dX11_player_69 ⟨rfl, ⟨by omega, by omega⟩, ?_⟩)
      subst hs0
      rfl
    by_cases hs1 : y2 = 1
    · refine S_tswIn (j := 1) (tgt := 70) X dX11_player_19 hs1 rfl (by decide) (by decide) ?_
      refine S_aload_n X dX11_player_70 rfl rfl ?_
      refine S_get (v := rv (a 31)) X fgX11_35_10 19 rfl rfl dX11_player_71 ?_
      refine S_get (v := rv (a 32)) X fgX11_161_7 31 rfl rfl dX11_player_74 ?_
      refine S_iload_n X dX11_player_77 rfl rfl ?_
      refine S_iald X 32 rfl (by omega) (by omega) (nle rfl) dX11_player_78 ?_
      refine S_vx (S_iret X (nle rfl) (nle rfl) dX11_player_79 ⟨rfl, ⟨by omega, by omega⟩, ?_⟩)
      subst hs1
      rfl
    by_cases hs2 : y2 = 2
    · refine S_tswIn (j := 2) (tgt := 80) X dX11_player_19 hs2 rfl (by decide) (by decide) ?_
      refine S_aload_n X dX11_player_80 rfl rfl ?_
      refine S_get (v := rv (a 31)) X fgX11_35_10 19 rfl rfl dX11_player_81 ?_
      refine S_get (v := rv (a 33)) X fgX11_162_7 31 rfl rfl dX11_player_84 ?_
      refine S_iload_n X dX11_player_87 rfl rfl ?_
      refine S_iald X 33 rfl (by omega) (by omega) (nle rfl) dX11_player_88 ?_
      refine S_vx (S_iret X (nle rfl) (nle rfl) dX11_player_89 ⟨rfl, ⟨by omega, by omega⟩, ?_⟩)
      subst hs2
      rfl
    by_cases hs3 : y2 = 3
    · refine S_tswIn (j := 3) (tgt := 90) X dX11_player_19 hs3 rfl (by decide) (by decide) ?_
      refine S_aload_n X dX11_player_90 rfl rfl ?_
      refine S_get (v := rv (a 31)) X fgX11_35_10 19 rfl rfl dX11_player_91 ?_
      refine S_get (v := rv (a 34)) X fgX11_165_7 31 rfl rfl dX11_player_94 ?_
      refine S_iload_n X dX11_player_97 rfl rfl ?_
      refine S_iald X 34 rfl (by omega) (by omega) (nle rfl) dX11_player_98 ?_
      refine S_vx (S_iret X (nle rfl) (nle rfl) dX11_player_99 ⟨rfl, ⟨by omega, by omega⟩, ?_⟩)
      subst hs3
      rfl
    by_cases hs4 : y2 = 4
    · refine S_tswIn (j := 4) (tgt := 100) X dX11_player_19 hs4 rfl (by decide) (by decide) ?_
      refine S_aload_n X dX11_player_100 rfl rfl ?_
      refine S_get (v := rv (a 37)) X fgX11_59_10 19 rfl rfl dX11_player_101 ?_
      refine S_get (v := rv (a 39)) X fgX11_168_5 37 rfl rfl dX11_player_104 ?_
      refine S_iload_n X dX11_player_107 rfl rfl ?_
      refine S_iald X 39 rfl (by omega) (by omega) (nle rfl) dX11_player_108 ?_
      refine S_vx (S_iret X (nle rfl) (nle rfl) dX11_player_109 ⟨rfl, ⟨by omega, by omega⟩, ?_⟩)
      subst hs4
      rfl
    by_cases hs5 : y2 = 5
    · refine S_tswIn (j := 5) (tgt := 110) X dX11_player_19 hs5 rfl (by decide) (by decide) ?_
      refine S_aload_n X dX11_player_110 rfl rfl ?_
      refine S_get (v := rv (a 37)) X fgX11_59_10 19 rfl rfl dX11_player_111 ?_
      refine S_get (v := rv (a 40)) X fgX11_171_5 37 rfl rfl dX11_player_114 ?_
      refine S_iload_n X dX11_player_117 rfl rfl ?_
      refine S_iald X 40 rfl (by omega) (by omega) (nle rfl) dX11_player_118 ?_
      refine S_vx (S_iret X (nle rfl) (nle rfl) dX11_player_119 ⟨rfl, ⟨by omega, by omega⟩, ?_⟩)
      subst hs5
      rfl
    by_cases hs6 : y2 = 6
    · refine S_tswIn (j := 6) (tgt := 120) X dX11_player_19 hs6 rfl (by decide) (by decide) ?_
      refine S_aload_n X dX11_player_120 rfl rfl ?_
      refine S_get (v := rv (a 37)) X fgX11_59_10 19 rfl rfl dX11_player_121 ?_
      refine S_get (v := rv (a 41)) X fgX11_174_5 37 rfl rfl dX11_player_124 ?_
      refine S_iload_n X dX11_player_127 rfl rfl ?_
      refine S_iald X 41 rfl (by omega) (by omega) (nle rfl) dX11_player_128 ?_
      refine S_vx (S_iret X (nle rfl) (nle rfl) dX11_player_129 ⟨rfl, ⟨by omega, by omega⟩, ?_⟩)
      subst hs6
      rfl
    refine S_tswOut (tgt := 130) X dX11_player_19 r2 (by omega) (by decide) ?_
    obtain ⟨⟨s1, h1⟩, ⟨s2, h2⟩, -⟩ := id hU
    exact S_throw X hex hU hl h2 dX11_player_130 dX11_player_133 dX11_player_134 dX11_player_136 dX11_player_139 (nle rfl) (nle rfl) (nle rfl) (nle rfl) (nle rfl) (nle rfl) (fun h9 => by unfold plOk at h9; omega)
theorem lkL_pl : (Cond.methodLink RL 38 yL_player ∈ uw ∧ Cond.static yL_player ∈ uw ∧ Cond.initialized yL_player.cls ∈ uw ∧ Cond.codeWith yL_player cL_player 5 (some .int) [(0, 10, 13, 13)] ∈ uw) ∧ okD yL_player 4 := ⟨⟨List.mem_filter.mpr ⟨List.mem_append_left _ (mT5 (List.mem_of_getElem? (i := 31) rfl)), by decide +kernel⟩, List.mem_filter.mpr ⟨List.mem_append_left _ (mT5 (List.mem_of_getElem? (i := 32) rfl)), by decide +kernel⟩, List.mem_filter.mpr ⟨List.mem_append_left _ (mT1 (List.mem_of_getElem? (i := 0) rfl)), by decide +kernel⟩, List.mem_filter.mpr ⟨List.mem_append_left _ (mT5 (List.mem_of_getElem? (i := 33) rfl)), by decide +kernel⟩⟩, by decide +kernel, by decide +kernel, by decide +kernel⟩
set_option maxRecDepth 100000 in
set_option maxHeartbeats 4000000 in
theorem kL_player (l : Launch) (hl : l.stackTraces = false) (a : Nat → Nat) (v : Nat → Int) (g : Nat → Int → Int) (R : Int → Int → Int) (ds : List LwS) (ys : Nat → LwY) (o : Nat) (q : Nat → Int64) (y1 y2 : Int) (hpl : 0 ≤ v 13 ∧ v 13 ≤ 6) (r1 : inR y1) (r2 : inR y2) : AMx l yL_player cL_player 5 .int [(0, 10, 13, 13)] 7 1 6 [rv (a 19), iv y1, iv y2, rv o] (CW a v g R ds ys ++ [(o, al 1 q)]) (fun z u => (z = 1 ∧ ¬ plOk v y1 y2 ∧ u = (CW a v g R ds ys ++ [(o, al 1 q)])) ∨ (z = 0 ∧ plOk v y1 y2 ∧ u = (CW a v g R ds ys ++ [(o, al 1 (va_up q (i32 0).toNatClampNeg (i32 (pl11 v g y1 y2)).toInt64))]))) := by
  refine AMx.of rfl (nle rfl) ?_
  intro D G A p e s m args below meth c hex hU X
  refine S_aload_n X dL_player_0 rfl rfl ?_
  refine S_iconst X dL_player_1 ?_
  refine S_aload_n X dL_player_2 rfl rfl ?_
  refine S_iload_n X dL_player_3 rfl rfl ?_
  refine S_iload_n X dL_player_4 rfl rfl ?_
  refine S_callX X hU (kX11_player l hl a v g R ds ys y1 y2 hpl r1 r2) lkL_7 19 rfl rfl (avs := [iv y1, iv y2]) (rest := [iv 0, rv o]) rfl rfl (nle rfl) ⟨nle rfl, nle rfl⟩ ⟨nle rfl, nle rfl⟩ dL_player_5 ⟨0, 10, 13, 13⟩ hex (by decide) (by decide) nse_cl (fun hn q9 => ?_) (fun z u hq => ?_)
  · show S_ p l e (rmD 7 1 6) s m args below meth c _ D G A 5 _ _ 13 _ _ _
    refine S_astore X dL_player_13 (nle rfl) ?_
    refine S_iconst X dL_player_15 ?_
    refine S_perm (ws2 := CW a v g R ds ys ++ [(o, al 1 q)]) List.perm_append_comm ?_
    exact S_iret X (nle rfl) (nle rfl) dL_player_16 (Or.inl ⟨rfl, hn, rfl⟩)
  · obtain ⟨hu, hok, hz⟩ := hq
    subst hz
    subst hu
    refine S_perm (ws2 := [(o, al 1 q)] ++ CW a v g R ds ys) List.perm_append_comm ?_
    refine S_wlast X 0 rfl (by decide) (by decide) (nle rfl) dL_player_8 dL_player_9 ?_
    refine S_w (ws' := [(o, al 1 (va_up q (i32 0).toNatClampNeg (i32 (pl11 v g y1 y2)).toInt64))] ++ CW a v g R ds ys) rfl ?_
    refine S_goto (tgt := 17) X dL_player_10 (by decide) ?_
    refine S_iconst X dL_player_17 ?_
    refine S_perm (ws2 := CW a v g R ds ys ++ [(o, al 1 (va_up q (i32 0).toNatClampNeg (i32 (pl11 v g y1 y2)).toInt64))]) List.perm_append_comm ?_
    exact S_iret X (nle rfl) (nle rfl) dL_player_18 (Or.inr ⟨rfl, hok, rfl⟩)
end pt_95pl
/- 96.zero.lean.txt -/
section pt_96zero
set_option maxRecDepth 100000 in
set_option maxHeartbeats 4000000 in
theorem qZ12_damp (l : Launch) (b : Nat → Nat) (w : Nat → Int) (h : Nat → Int → Int) (y1 : Int) (hp0 : w 21 = 0) : AMi l yX12_damp cX12_damp 2 .int 6 0 0 [rv (b 0), iv y1] (RW b w h) (fun z u => z = -1 ∧ u = RW b w h) := by
  refine AMi.of2 rfl (nle rfl) ?_
  intro D G A p e s m args below meth c Po hPo X
  refine S_aload_n X dX12_damp_0 rfl rfl ?_
  refine S_get (v := iv (w 21)) X fgX12_253_11 0 rfl rfl dX12_damp_1 ?_
  refine S_if_le (tgt := 26) X dX12_damp_4 (by decide) (by omega) (fun _ => ?_) (fun h9 => by exfalso; omega)
  refine S_iconst X dX12_damp_26 ?_
  exact S_iret X (nle rfl) (nle rfl) dX12_damp_27 (hPo _ _ ⟨rfl, rfl⟩)
set_option maxRecDepth 100000 in
set_option maxHeartbeats 4000000 in
theorem qZ12_day (l : Launch) (b : Nat → Nat) (w : Nat → Int) (h : Nat → Int → Int) (y1 : Int) (hp0 : w 21 = 0) : AMi l yX12_day cX12_day 3 .int 6 0 0 [rv (b 0), iv y1] (RW b w h) (fun z u => z = -1 ∧ u = RW b w h) := by
  refine AMi.of2 rfl (nle rfl) ?_
  intro D G A p e s m args below meth c Po hPo X
  refine S_aload_n X dX12_day_0 rfl rfl ?_
  refine S_get (v := iv (w 21)) X fgX12_253_11 0 rfl rfl dX12_day_1 ?_
  refine S_if_eq (tgt := 31) X dX12_day_4 (by decide) (by omega) (fun _ => ?_) (fun h9 => by exfalso; omega)
  refine S_iconst X dX12_day_31 ?_
  exact S_iret X (nle rfl) (nle rfl) dX12_day_32 (hPo _ _ ⟨rfl, rfl⟩)
set_option maxRecDepth 100000 in
set_option maxHeartbeats 4000000 in
theorem qZ12_week (l : Launch) (b : Nat → Nat) (w : Nat → Int) (h : Nat → Int → Int) (y1 : Int) (hp0 : w 21 = 0) : AMi l yX12_week cX12_week 3 .int 13 0 0 [rv (b 0), iv y1] (RW b w h) (fun z u => z = -1 ∧ u = RW b w h) := by
  refine AMi.of2 rfl (nle rfl) ?_
  intro D G A p e s m args below meth c Po hPo X
  refine S_aload_n X dX12_week_0 rfl rfl ?_
  refine S_get (v := iv (w 21)) X fgX12_253_11 0 rfl rfl dX12_week_1 ?_
  refine S_if_eq (tgt := 29) X dX12_week_4 (by decide) (by omega) (fun _ => ?_) (fun h9 => by exfalso; omega)
  refine S_iconst X dX12_week_29 ?_
  exact S_iret X (nle rfl) (nle rfl) dX12_week_30 (hPo _ _ ⟨rfl, rfl⟩)
set_option maxRecDepth 100000 in
set_option maxHeartbeats 4000000 in
theorem qZ12_gift (l : Launch) (b : Nat → Nat) (w : Nat → Int) (h : Nat → Int → Int) (y1 : Int) (hp0 : w 21 = 0) : AMi l yX12_gift cX12_gift 7 .int 6 0 0 [rv (b 0), iv y1] (RW b w h) (fun z u => z = -1 ∧ u = RW b w h) := by
  refine AMi.of2 rfl (nle rfl) ?_
  intro D G A p e s m args below meth c Po hPo X
  refine S_aload_n X dX12_gift_0 rfl rfl ?_
  refine S_get (v := iv (w 21)) X fgX12_253_11 0 rfl rfl dX12_gift_1 ?_
  refine S_if_eq (tgt := 26) X dX12_gift_4 (by decide) (by omega) (fun _ => ?_) (fun h9 => by exfalso; omega)
  refine S_iconst X dX12_gift_26 ?_
  exact S_iret X (nle rfl) (nle rfl) dX12_gift_27 (hPo _ _ ⟨rfl, rfl⟩)
set_option maxRecDepth 100000 in
set_option maxHeartbeats 4000000 in
theorem qZ12_odds (l : Launch) (b : Nat → Nat) (w : Nat → Int) (h : Nat → Int → Int) (y1 y2 : Int) (hp0 : w 21 = 0) (r1 : inR y1) : AMi l yX12_odds cX12_odds 3 .int 14 0 0 [rv (b 0), iv y1, iv y2] (RW b w h) (fun z u => z = -1 ∧ u = RW b w h) := by
  refine AMi.of2 rfl (nle rfl) ?_
  intro D G A p e s m args below meth c Po hPo X
  refine S_aload_n X dX12_odds_0 rfl rfl ?_
  refine S_iload_n X dX12_odds_1 rfl rfl ?_
  refine S_calli X (kX12_isPlayer l (b 0) (o11 b w) (w 21) y1 rfl (by omega) r1) (is := [0]) rfl (run_V X lkX12_281 0 rfl rfl (is := [0]) (avs := [iv y1]) (rest := []) rfl rfl (nle rfl) ⟨nle rfl, nle rfl⟩ ⟨nle rfl, nle rfl⟩ dX12_odds_2 (by decide) rfl) (fun z u hq => ?_)
  rcases hq with ⟨hz, hu, hq⟩ | ⟨hz, hu, hq⟩
  · subst hz
    subst hu
    refine ⟨rfl, ?_⟩
    refine S_w (ws' := RW b w h) rfl ?_
    refine S_if_eq (tgt := 28) X dX12_odds_5 (by decide) (by decide) (fun _ => ?_) (fun h9 => absurd rfl h9)
    refine S_iconst X dX12_odds_28 ?_
    exact S_iret X (nle rfl) (nle rfl) dX12_odds_29 (hPo _ _ ⟨rfl, rfl⟩)
  · exfalso
    omega
end pt_96zero
/- 97.inv.lean.txt -/
section pt_97inv
/-! WHAT HOLDS BETWEEN CALLS: of the class, of the reference, of both -/
def iT (T : Int → Int) (n : Int) (T2 : Int → Int) (n2 : Int) : Prop := okT T n ∧ T2 = T ∧ n2 = n
def iL (ds : List LwS) (ys : Nat → LwY) (lw ho mt pl lw2 ho2 : Int) (C V Lk Tf Sf Ef : Int → Int) : Prop := ((ds.length : Int) = lw ∧ 0 ≤ lw ∧ lw ≤ 4) ∧ okW ds ys mt pl ∧ (-1 ≤ ho ∧ ho < lw) ∧ lw2 = lw ∧ ho2 = ho ∧ ∀ i, 0 ≤ i → i < lw → lawAt C V Lk Tf Sf Ef i (csA ds i)
def iS (pl n ec mk lim pl2 n2 ec2 mk2 lim2 : Int) (F H B L Q B2 E2 : Int → Int) : Prop := okZ pl n ec F H B L ∧ (0 ≤ lim ∧ lim ≤ 999) ∧ pl2 = pl ∧ n2 = n ∧ ec2 = ec ∧ mk2 = mk ∧ lim2 = lim ∧ ∀ p, 0 ≤ p → p < pl → c5 Q 3 p = F p ∧ c5 Q 4 p = H p ∧ B2 p = B p ∧ E2 p = L p
def iW (pl mt mt2 : Int) (WB WD WK Q : Int → Int) : Prop := (1 ≤ pl → okDy pl mt WK WD ∧ mt2 = mt) ∧ ∀ p, 0 ≤ p → p < pl → c5 Q 0 p = WB p ∧ c5 Q 1 p = WD p ∧ c5 Q 2 p = WK p
def iD (pl td un hi im nx td2 un2 hi2 im2 : Int) (DI DR K Ib : Int → Int) : Prop := (0 ≤ nx ∧ nx ≤ 59) ∧ (0 ≤ un ∧ un ≤ 60) ∧ un ≤ td ∧ td ≤ 1000 ∧ (hi = 0 ∨ hi = 1) ∧ td2 = td ∧ un2 = un ∧ hi2 = hi ∧ (∀ k, 0 ≤ k → k < un → ∀ p, 0 ≤ p → p < pl → K (6 * (un - 1 - k) + p) = DR ((nx - 1 - k) % 60 * 6 + p) ∧ 1 ≤ DR ((nx - 1 - k) % 60 * 6 + p) ∧ DR ((nx - 1 - k) % 60 * 6 + p) ≤ 199) ∧ (hi = 1 → im2 = im ∧ 0 ≤ im ∧ im ≤ 1000 ∧ ∀ p, 0 ≤ p → p < pl → Ib p = DI p ∧ 1 ≤ DI p ∧ DI p ≤ 199)
def iR (pl rl rl2 : Int) (To P B T : Int → Int) : Prop := (0 ≤ rl ∧ rl ≤ 20) ∧ rl2 = rl ∧ ∀ k, 0 ≤ k → k < rl → ((0 ≤ t3a To k ∧ t3a To k < pl) ∧ (0 ≤ t3b To k ∧ t3b To k ≤ 29) ∧ (0 ≤ t3c To k ∧ t3c To k ≤ 9999)) ∧ P k = t3a To k ∧ B k = t3b To k ∧ T k = t3c To k
def iM (fe bt : Int) (Cn Mm : Int → Int) : Prop := (0 ≤ fe ∧ fe ≤ 1000000000) ∧ inR bt ∧ (∀ x, 0 ≤ x → x < 31 → 0 ≤ Cn x ∧ Cn x ≤ 1000000000) ∧ (∀ x, 0 ≤ x → x < 31 → inR (Mm x))
def iK (kk ro le : Int) (Kw : Int → Int) : Prop := (∀ x, 0 ≤ x → x < 6 → 0 ≤ Kw x ∧ Kw x ≤ 9) ∧ (kk = 0 ∨ kk = 1) ∧ (0 ≤ ro ∧ ro ≤ 1000000000 ∧ 0 ≤ le ∧ le ≤ 1000000000)
def Inv (v : Nat → Int) (g : Nat → Int → Int) (ds : List LwS) (ys : Nat → LwY) (w : Nat → Int) (h : Nat → Int → Int) : Prop :=
  iT (g 21) (v 4) (h 1) (w 2) ∧
  iL ds ys (v 1) (v 2) (v 14) (v 13) (w 13) (w 27) (h 6) (h 7) (h 9) (h 10) (h 11) (h 12) ∧
  iS (v 13) (v 21) (v 22) (v 23) (v 0) (w 21) (w 28) (w 29) (w 26) (w 30) (g 39) (g 40) (g 38) (g 41) (h 20) (h 23) (h 24) ∧
  iW (v 13) (v 14) (w 22) (g 32) (g 33) (g 34) (h 20) ∧
  iD (v 13) (v 15) (v 16) (v 17) (v 18) (v 19) (w 25) (w 32) (w 49) (w 48) (g 0) (g 1) (h 31) (h 47) ∧
  iR (v 13) (v 3) (w 46) (g 2) (h 43) (h 44) (h 45) ∧
  iM (v 33) (v 34) (g 14) (g 15) ∧
  iK (v 35) (v 36) (v 37) (g 17)
def PR (a b : Nat → Nat) (u u2 : EW) : Prop := ∃ (v : Nat → Int) (g : Nat → Int → Int) (R : Int → Int → Int) (ds : List LwS) (ys : Nat → LwY) (w : Nat → Int) (h : Nat → Int → Int), u = CW a v g R ds ys ∧ u2 = RW b w h ∧ Inv v g ds ys w h
theorem okZ_e {pl n ec : Int} {F H B L F2 H2 B2 L2 : Int → Int} (h : okZ pl n ec F H B L) (e : ∀ p, 0 ≤ p → p < pl → F2 p = F p ∧ H2 p = H p ∧ B2 p = B p ∧ L2 p = L p) : okZ pl n ec F2 H2 B2 L2 := by
  obtain ⟨h1, h2, h3, h4, h5, h6, h7⟩ := h
  refine ⟨h1, h2, h3, h4, h5, h6, fun p a0 a1 => ?_⟩
  obtain ⟨e1, e2, e3, e4⟩ := e p a0 a1
  rw [e1, e2, e3, e4]
  exact h7 p a0 a1
theorem okZ_B {pl n ec : Int} {F H B L B2 : Int → Int} (h : okZ pl n ec F H B L) (hB : ∀ p, 0 ≤ p → p < pl → 1 ≤ B2 p ∧ B2 p ≤ 199) : okZ pl n ec F H B2 L := by
  obtain ⟨h1, h2, h3, h4, h5, h6, h7⟩ := h
  refine ⟨h1, h2, h3, h4, h5, h6, fun p a0 a1 => ?_⟩
  obtain ⟨k1, k2, k3, k4⟩ := h7 p a0 a1
  exact ⟨k1, k2, hB p a0 a1, k4⟩
theorem okZ_b {pl n ec : Int} {F H B L : Int → Int} (h : okZ pl n ec F H B L) : ∀ p, 0 ≤ p → p < pl → 1 ≤ B p ∧ B p ≤ 199 := fun p a0 a1 => (h.2.2.2.2.2.2 p a0 a1).2.2.1
theorem okT_wr {T : Int → Int} {n : Int} {l : List Int} (h : okT T n) (hl : ∀ t ∈ l, 1 ≤ t ∧ t ≤ 255) (hn : n + (l.length : Int) ≤ 160) : okT (wrL T n l) (n + (l.length : Int)) := by
  obtain ⟨h0, h1, h2⟩ := h
  refine ⟨by omega, hn, fun j a0 a1 => ?_⟩
  by_cases hj : j < n
  · rw [wrL_lo hj]
    exact h2 j a0 hj
  · have hi : (j - n).toNat < l.length := by omega
    have e := wrL_in (g := T) (k := n) (List.getElem?_eq_getElem hi)
    rw [show n + (((j - n).toNat : Nat) : Int) = j by omega] at e
    rw [e]
    exact hl _ (List.getElem_mem hi)
section IV
variable {a b : Nat → Nat} {v : Nat → Int} {g : Nat → Int → Int} {R : Int → Int → Int} {ds : List LwS} {ys : Nat → LwY} {w : Nat → Int} {h : Nat → Int → Int}
/-- what the contracts of the reference ask for -/
theorem Inv.rz (hI : Inv v g ds ys w h) : okZ (w 21) (w 28) (w 29) (c5 (h 20) 3) (c5 (h 20) 4) (h 23) (h 24) := by
  obtain ⟨-, -, ⟨k1, k2, e1, e2, e3, e4, e5, k3⟩, -⟩ := hI
  rw [e1, e2, e3]
  exact okZ_e k1 k3
theorem Inv.pl (hI : Inv v g ds ys w h) : w 21 = v 13 := hI.2.2.1.2.2.1
theorem Inv.pl6 (hI : Inv v g ds ys w h) : 0 ≤ v 13 ∧ v 13 ≤ 6 := ⟨hI.2.2.1.1.1, hI.2.2.1.1.2.1⟩
theorem Inv.rpl (hI : Inv v g ds ys w h) : 0 ≤ w 21 ∧ w 21 ≤ 6 := by rw [hI.pl]; exact hI.pl6
theorem Inv.rlim (hI : Inv v g ds ys w h) : 0 ≤ w 30 ∧ w 30 ≤ 999 := by
  obtain ⟨-, -, ⟨k1, k2, e1, e2, e3, e4, e5, k3⟩, -⟩ := hI
  rw [e5]
  exact k2
theorem Inv.rlw (hI : Inv v g ds ys w h) : 0 ≤ w 13 ∧ w 13 ≤ 4 := by
  obtain ⟨-, ⟨k1, k2, k3, e1, e2, k4⟩, -⟩ := hI
  rw [e1]
  exact k1.2
theorem Inv.rT (hI : Inv v g ds ys w h) : okT (h 1) (w 2) := by
  obtain ⟨⟨k, e1, e2⟩, -⟩ := hI
  rw [e1, e2]
  exact k
theorem Inv.rn (hI : Inv v g ds ys w h) : 0 ≤ w 2 ∧ w 2 ≤ 160 := ⟨hI.rT.1, hI.rT.2.1⟩
theorem Inv.ho (hI : Inv v g ds ys w h) : w 27 = -1 ∨ (0 ≤ w 27 ∧ w 27 ≤ 3 ∧ lawAt (h 6) (h 7) (h 9) (h 10) (h 11) (h 12) (w 27) (csA ds (w 27))) := by
  obtain ⟨-, ⟨k1, k2, k3, e1, e2, k4⟩, -⟩ := hI
  rw [e2]
  by_cases hh : v 2 = -1
  · exact Or.inl hh
  · exact Or.inr ⟨by omega, by omega, k4 _ (by omega) k3.2⟩
theorem Inv.rdy (hI : Inv v g ds ys w h) (h1 : 1 ≤ v 13) : okDy (w 21) (w 22) (c5 (h 20) 2) (c5 (h 20) 1) := by
  obtain ⟨-, -, ⟨-, -, e1, -⟩, ⟨k1, k2⟩, -⟩ := hI
  obtain ⟨⟨k3, k4, k5⟩, e2⟩ := k1 h1
  rw [e1, e2]
  refine ⟨k3, k4, fun p a0 a1 => ?_⟩
  obtain ⟨-, e3, e4⟩ := k2 p a0 a1
  rw [e3, e4]
  exact k5 p a0 a1
theorem Inv.rpm (hI : Inv v g ds ys w h) (h1 : 1 ≤ v 13) : (0 ≤ w 21 ∧ w 21 ≤ 6) ∧ 1 ≤ w 22 ∧ w 22 ≤ 99 := ⟨hI.rpl, (hI.rdy h1).1, (hI.rdy h1).2.1⟩
theorem Inv.rB (hI : Inv v g ds ys w h) : ∀ p, 0 ≤ p → p < w 21 → 1 ≤ h 23 p ∧ h 23 p ≤ 199 := okZ_b hI.rz
theorem Inv.rtd (hI : Inv v g ds ys w h) : 0 ≤ w 25 ∧ w 25 ≤ 1000 := by
  obtain ⟨-, -, -, -, ⟨-, k2, k3, k4, -, e1, -⟩, -⟩ := hI
  rw [e1]
  omega
theorem Inv.rac (hI : Inv v g ds ys w h) : 0 ≤ w 32 ∧ w 32 ≤ 60 := by
  obtain ⟨-, -, -, -, ⟨-, k2, -, -, -, -, e1, -⟩, -⟩ := hI
  rw [e1]
  exact k2
theorem Inv.rhi (hI : Inv v g ds ys w h) : w 49 = 0 ∨ w 49 = 1 := by
  obtain ⟨-, -, -, -, ⟨-, -, -, -, k, -, -, e1, -⟩, -⟩ := hI
  rw [e1]
  exact k
theorem Inv.rrl (hI : Inv v g ds ys w h) : 0 ≤ w 46 ∧ w 46 ≤ 20 := by
  obtain ⟨-, -, -, -, -, ⟨k, e1, -⟩, -⟩ := hI
  rw [e1]
  exact k
theorem Inv.rro (hI : Inv v g ds ys w h) : 0 ≤ w 46 ∧ w 46 ≤ 20 ∧ ∀ k, 0 ≤ k → k < w 46 → (0 ≤ h 43 k ∧ h 43 k < w 21) ∧ (0 ≤ h 44 k ∧ h 44 k ≤ 29) ∧ (0 ≤ h 45 k ∧ h 45 k ≤ 9999) := by
  obtain ⟨-, -, ⟨-, -, e0, -⟩, -, -, ⟨k, e1, k2⟩, -⟩ := hI
  rw [e0, e1]
  refine ⟨k.1, k.2, fun j a0 a1 => ?_⟩
  obtain ⟨k3, k4, k5, k6⟩ := k2 j a0 a1
  rw [k4, k5, k6]
  exact k3
/-- .. and those of the class -/
theorem Inv.cro (hI : Inv v g ds ys w h) : 0 ≤ v 3 ∧ v 3 ≤ 20 ∧ ∀ k, 0 ≤ k → k < v 3 → (0 ≤ t3a (g 2) k ∧ t3a (g 2) k < v 13) ∧ (0 ≤ t3b (g 2) k ∧ t3b (g 2) k ≤ 29) ∧ (0 ≤ t3c (g 2) k ∧ t3c (g 2) k ≤ 9999) := by
  obtain ⟨-, -, -, -, -, ⟨k, e1, k2⟩, -⟩ := hI
  exact ⟨k.1, k.2, fun j a0 a1 => (k2 j a0 a1).1⟩
theorem Inv.cdy (hI : Inv v g ds ys w h) : 1 ≤ v 13 → okDy (v 13) (v 14) (g 34) (g 33) := fun h1 => (hI.2.2.2.1.1 h1).1
theorem Inv.cmt (hI : Inv v g ds ys w h) : 1 ≤ v 13 → 1 ≤ v 14 ∧ v 14 ≤ 99 := fun h1 => ⟨(hI.cdy h1).1, (hI.cdy h1).2.1⟩
theorem Inv.ctd (hI : Inv v g ds ys w h) : 0 ≤ v 15 ∧ v 15 ≤ 1000 := by
  obtain ⟨-, -, -, -, ⟨-, k2, k3, k4, -⟩, -⟩ := hI
  omega
end IV
/-! THE LAWS' TABLES: what is laid elsewhere changes nothing -/
theorem tkA_e {C V C2 V2 : Int → Int} {x : Int} {ts : List Int} (h : tkA C V x ts) (e : ∀ i, x ≤ i → i < x + (ts.length : Int) → C2 i = C i ∧ V2 i = V i) : tkA C2 V2 x ts := fun j t ht => by
  have hj := (List.getElem?_eq_some_iff.mp ht).1
  have e1 := e (x + j) (by omega) (by omega)
  rw [e1.1, e1.2]
  exact h j t ht
theorem lwA_e {C V Tf Sf Ef C2 V2 T2 S2 E2 : Int → Int} {x om : Int} (eC : ∀ i, x ≤ i → i < x + om → C2 i = C i ∧ V2 i = V i) : ∀ (cs : List (List Int × List Int)) (c o : Int), 0 ≤ o → o + ((codesOf cs).length : Int) ≤ om → (∀ i, c ≤ i → i < c + (cs.length : Int) → T2 i = Tf i ∧ S2 i = Sf i ∧ E2 i = Ef i) → lwA C V Tf Sf Ef x c o cs → lwA C2 V2 T2 S2 E2 x c o cs
  | [], _, _, _, _, _, _ => trivial
  | p :: r, c, o, ho, hl, eT, hh => by
    obtain ⟨h1, h2, h3, h4, h5, h6⟩ := hh
    rw [codesOf_c] at hl
    have e0 := eT c (Int.le_refl _) (by rw [List.length_cons]; omega)
    refine ⟨by rw [e0.1]; exact h1, by rw [e0.2.1]; exact h2, by rw [e0.2.2]; exact h3, tkA_e h4 (fun i a0 a1 => eC i (by omega) (by omega)), tkA_e h5 (fun i a0 a1 => eC i (by omega) (by omega)), lwA_e eC r (c + 1) _ (by omega) (by omega) (fun i a0 a1 => eT i (by omega) (by rw [List.length_cons]; omega)) h6⟩
theorem lawAt_e {C V Lk Tf Sf Ef C2 V2 L2 T2 S2 E2 : Int → Int} {i tx : Int} {cs : List (List Int × List Int)} (hl : lawAt C V Lk Tf Sf Ef i cs) (h0 : 0 ≤ i) (hi : i ≠ tx) (fC : frm tx C C2) (fV : frm tx V V2) (fT : frp tx Tf T2) (fS : frp tx Sf S2) (fE : frp tx Ef E2) (eL : L2 i = Lk i) : lawAt C2 V2 L2 T2 S2 E2 i cs := by
  obtain ⟨h1, h2, h3, h4, h5⟩ := hl
  refine ⟨by rw [eL]; exact h1, h2, h3, lwA_e (om := 340) (fun j a0 a1 => ⟨fC j (by omega), fV j (by omega)⟩) cs _ 0 (by omega) (by omega) (fun j a0 a1 => ⟨fT j (by omega), fS j (by omega), fE j (by omega)⟩) h4, h5⟩
/-- .. and what was laid is there -/
theorem lwA_new {C V Tf Sf Ef : Int → Int} {x : Int} : ∀ (cs : List (List Int × List Int)) (c o : Int), (∀ (j : Nat) (t : Int), (codesOf cs)[j]? = some t → C (x + o + j) = kC t ∧ V (x + o + j) = kV t) → (∀ (j : Nat) (t : Int), (tfOf o cs)[j]? = some t → Tf (c + j) = t) → (∀ (j : Nat) (t : Int), (sfOf o cs)[j]? = some t → Sf (c + j) = t) → (∀ (j : Nat) (t : Int), (stOf o cs)[j]? = some t → Ef (c + j) = t) → lwA C V Tf Sf Ef x c o cs
  | [], _, _, _, _, _, _ => trivial
  | p :: r, c, o, hC, hT, hS, hE => by
    have ec : codesOf (p :: r) = p.1 ++ (p.2 ++ codesOf r) := by unfold codesOf; rw [List.flatMap_cons, List.append_assoc]
    have z : ∀ y : Int, y + ((0 : Nat) : Int) = y := fun y => by omega
    refine ⟨by have := hT 0 _ rfl; rwa [z] at this, by have := hS 0 _ rfl; rwa [z] at this, by have := hE 0 _ rfl; rwa [z] at this, fun j t ht => ?_, fun j t ht => ?_, lwA_new r (c + 1) _ (fun j t ht => ?_) (fun j t ht => ?_) (fun j t ht => ?_) (fun j t ht => ?_)⟩
    · have hj := (List.getElem?_eq_some_iff.mp ht).1
      exact hC j t (by rw [ec, List.getElem?_append_left hj]; exact ht)
    · have hj := (List.getElem?_eq_some_iff.mp ht).1
      have e1 := hC (p.1.length + j) t (by rw [ec, List.getElem?_append_right (by omega), Nat.add_sub_cancel_left, List.getElem?_append_left hj]; exact ht)
      rw [show x + (o + (p.1.length : Int)) + (j : Int) = x + o + ((p.1.length + j : Nat) : Int) by omega]
      exact e1
    · have e1 := hC (p.1.length + (p.2.length + j)) t (by rw [ec, List.getElem?_append_right (by omega), Nat.add_sub_cancel_left, List.getElem?_append_right (by omega), Nat.add_sub_cancel_left]; exact ht)
      rw [show x + (o + (p.1.length : Int) + (p.2.length : Int)) + (j : Int) = x + o + ((p.1.length + (p.2.length + j) : Nat) : Int) by omega]
      exact e1
    · have e1 := hT (j + 1) t ht
      rw [show c + 1 + (j : Int) = c + ((j + 1 : Nat) : Int) by omega]
      exact e1
    · have e1 := hS (j + 1) t ht
      rw [show c + 1 + (j : Int) = c + ((j + 1 : Nat) : Int) by omega]
      exact e1
    · have e1 := hE (j + 1) t ht
      rw [show c + 1 + (j : Int) = c + ((j + 1 : Nat) : Int) by omega]
      exact e1
theorem lawAt_new {C V Lk Tf Sf Ef T : Int → Int} {n i : Int} {cs : List (List Int × List Int)} (h0 : 0 ≤ i) (hn : n ≤ 160) (hn0 : 0 ≤ n) (hr : pLawLS T n 161 0 [] = .inr cs) (hl : ((codesOf cs).length : Int) ≤ 160 ∧ 2 * (cs.length : Int) ≤ 160) : lawAt (wrL C (340 * i + 0) (List.map kC (codesOf cs))) (wrL V (340 * i + 0) (List.map kV (codesOf cs))) (uZ Lk i (0 + ((cs).length : Int))) (wrL Tf (90 * i + 0) (tfOf 0 cs)) (wrL Sf (90 * i + 0) (sfOf 0 cs)) (wrL Ef (90 * i + 0) (stOf 0 cs)) i cs := by
  refine ⟨by rw [uZ_at]; omega, hl.1, hl.2, lwA_new cs _ 0 (fun j t ht => ?_) (fun j t ht => ?_) (fun j t ht => ?_) (fun j t ht => ?_), okLaw_read hn hn0 hr⟩
  · exact ⟨wrL_in (by rw [List.getElem?_map, ht]; rfl), wrL_in (by rw [List.getElem?_map, ht]; rfl)⟩
  · rw [show 90 * i + (j : Int) = 90 * i + 0 + (j : Int) by omega]
    exact wrL_in ht
  · rw [show 90 * i + (j : Int) = 90 * i + 0 + (j : Int) by omega]
    exact wrL_in ht
  · rw [show 90 * i + (j : Int) = 90 * i + 0 + (j : Int) by omega]
    exact wrL_in ht
end pt_97inv
/- 98.pairs.lean.txt -/
section pt_98pairs
/-! ONE CALL ON BOTH SIDES: what holds, holds again -/
theorem t3a_p {To : Int → Int} {r x y z k : Int} : t3a (uZ (uZ (uZ To (r * 3) x) (r * 3 + 1) y) (r * 3 + 2) z) k = uZ (t3a To) r x k := by unfold t3a uZ; (repeat' split) <;> first | rfl | (exfalso; omega)
theorem t3b_p {To : Int → Int} {r x y z k : Int} : t3b (uZ (uZ (uZ To (r * 3) x) (r * 3 + 1) y) (r * 3 + 2) z) k = uZ (t3b To) r y k := by unfold t3b uZ; (repeat' split) <;> first | rfl | (exfalso; omega)
theorem t3c_p {To : Int → Int} {r x y z k : Int} : t3c (uZ (uZ (uZ To (r * 3) x) (r * 3 + 1) y) (r * 3 + 2) z) k = uZ (t3c To) r z k := by unfold t3c uZ; (repeat' split) <;> first | rfl | (exfalso; omega)
theorem paF_e {Kd Dr Kd2 Dr2 B B2 : Int → Int} {mt at9 wet pl p : Int} (e : Kd2 p = Kd p ∧ Dr2 p = Dr p ∧ B2 p = B p) : paF Kd2 Dr2 mt at9 wet pl B2 p = paF Kd Dr mt at9 wet pl B p := by
  unfold paF
  rw [e.1, e.2.1, e.2.2]
section PP
variable {a b : Nat → Nat} {v : Nat → Int} {g : Nat → Int → Int} {R : Int → Int → Int} {ds : List LwS} {ys : Nat → LwY} {w : Nat → Int} {h : Nat → Int → Int} {z y y1 y2 y3 y4 y5 : Int} {u u2 : EW}
theorem pr_feed (hI : Inv v g ds ys w h) (h1 : QX11_feed a v g R ds ys y1 y2 y3 y4 y5 z u) (h2 : QX12_feed b w h y1 y2 y3 y4 y5 y u2) : z = y ∧ PR a b u u2 := by
  obtain ⟨⟨kT, eT, en⟩, hL, hS, hW, hD, hR, hM, hK⟩ := hI
  rcases h1 with ⟨hz, hu, hq⟩ | ⟨n2, T2, hz, hu, hq, hq2, hq3⟩ <;> rcases h2 with ⟨hy, hu2, hp⟩ | ⟨n3, T3, hy, hu2, hp, hp2, hp3⟩
  · exact ⟨by rw [hz, hy], _, _, _, _, _, _, _, hu, hu2, ⟨kT, eT, en⟩, hL, hS, hW, hD, hR, hM, hK⟩
  · exfalso; rw [en] at hp; omega
  · exfalso; rw [en] at hp; omega
  · rw [en] at hp2
    have e : n3 = n2 := by omega
    have e2 : T3 = T2 := by rw [hp3, hq3, eT, en]
    have hl := fbs_len y1 y2 y3 y4 y5
    have ok := okT_wr kT (fbs_ok y1 y2 y3 y4 y5) (by omega)
    rw [← hq3, hl, ← hq2] at ok
    exact ⟨by omega, _, _, _, _, _, _, _, hu, hu2, ⟨ok, e2, e⟩, hL, hS, hW, hD, hR, hM, hK⟩
theorem pr_end (hI : Inv v g ds ys w h) (h1 : QX11_end a v g R ds ys y1 z u) (h2 : QX12_end b w h y1 y u2) : z = y ∧ PR a b u u2 := by
  obtain ⟨⟨kT, eT, en⟩, hL, hS, hW, hD, hR, hM, hK⟩ := hI
  rcases h1 with ⟨hz, hu, hq⟩ | ⟨hz, hu, hq⟩ <;> rcases h2 with ⟨hy, hu2, hp⟩ | ⟨hy, hu2, hp⟩ <;> rw [en] at hp
  · exact ⟨by rw [hz, hy], _, _, _, _, _, _, _, hu, hu2, ⟨kT, eT, en⟩, hL, hS, hW, hD, hR, hM, hK⟩
  · exact absurd hp hq
  · exact absurd hq hp
  · have ok : okT (g 21) y1 := ⟨hq.1, by have := kT.2.1; omega, fun j a0 a1 => kT.2.2 j a0 (by omega)⟩
    exact ⟨by rw [hz, hy], _, _, _, _, _, _, _, hu, hu2, ⟨ok, eT, rfl⟩, hL, hS, hW, hD, hR, hM, hK⟩
theorem pr_set (hI : Inv v g ds ys w h) (h1 : QX11_set a v g R ds ys y1 y2 z u) (h2 : QX12_set b w h y1 y2 y u2) : z = y ∧ PR a b u u2 := by
  obtain ⟨hT, ⟨k1, k2, k3, e1, e2, k4⟩, ⟨s1, s2, s3, s4, s5, s6, s7, s8⟩, hW, hD, hR, hM, ⟨c1, c2, c3⟩⟩ := hI
  have z1 := s1.2.2.2.2.2.2
  have z2 := s1.1
  have z3 := s1.2.1
  have z4 := s1.2.2
  rcases h1 with ⟨hz, hu, hq⟩ | ⟨hz, hu, hq⟩ | ⟨hz, hu, hq⟩ | ⟨hz, hu, hq⟩ | ⟨hz, hu, hq⟩ <;> rcases h2 with ⟨hy, hu2, hp⟩ | ⟨hy, hu2, hp⟩ | ⟨hy, hu2, hp⟩ | ⟨hy, hu2, hp⟩ | ⟨hy, hu2, hp⟩ <;> try (exfalso; (try rw [e1] at hp); omega)
  · exact ⟨by rw [hz, hy], _, _, _, _, _, _, _, hu, hu2, hT, ⟨k1, k2, k3, e1, e2, k4⟩, ⟨s1, s2, s3, s4, s5, s6, s7, s8⟩, hW, hD, hR, hM, ⟨c1, c2, c3⟩⟩
  · exact ⟨by rw [hz, hy], _, _, _, _, _, _, _, hu, hu2, hT, ⟨k1, k2, hq.2, e1, rfl, k4⟩, ⟨s1, s2, s3, s4, s5, s6, s7, s8⟩, hW, hD, hR, hM, ⟨c1, Or.inl rfl, c3⟩⟩
  · exact ⟨by rw [hz, hy], _, _, _, _, _, _, _, hu, hu2, hT, ⟨k1, k2, k3, e1, e2, k4⟩, ⟨⟨z2, z3, hq.2.1, hq.2.2, z4.2.2⟩, s2, s3, rfl, s5, s6, s7, s8⟩, hW, hD, hR, hM, ⟨c1, Or.inl rfl, c3⟩⟩
  · exact ⟨by rw [hz, hy], _, _, _, _, _, _, _, hu, hu2, hT, ⟨k1, k2, k3, e1, e2, k4⟩, ⟨⟨z2, z3, z4.1, z4.2.1, hq.2.1, hq.2.2, z1⟩, s2, s3, s4, rfl, s6, s7, s8⟩, hW, hD, hR, hM, ⟨c1, Or.inl rfl, c3⟩⟩
  · exact ⟨by rw [hz, hy], _, _, _, _, _, _, _, hu, hu2, hT, ⟨k1, k2, k3, e1, e2, k4⟩, ⟨s1, hq.2, s3, s4, s5, s6, rfl, s8⟩, hW, hD, hR, hM, ⟨c1, Or.inl rfl, c3⟩⟩
theorem pr_mark (hI : Inv v g ds ys w h) (h1 : QX11_mark a v g R ds ys y1 y2 z u) (h2 : QX12_mark b w h y1 y2 y u2) : z = y ∧ PR a b u u2 := by
  obtain ⟨hT, hL, ⟨s1, s2, s3, s4, s5, s6, s7, s8⟩, hW, hD, hR, hM, ⟨c1, c2, c3⟩⟩ := hI
  rcases h1 with ⟨hz, hu, hq⟩ | ⟨hz, hu, hq⟩ <;> rcases h2 with ⟨hy, hu2, hp⟩ | ⟨hy, hu2, hp⟩ <;> rw [s3, s6] at hp
  · exact ⟨by rw [hz, hy], _, _, _, _, _, _, _, hu, hu2, hT, hL, ⟨s1, s2, s3, s4, s5, s6, s7, s8⟩, hW, hD, hR, hM, ⟨c1, c2, c3⟩⟩
  · exfalso; omega
  · exfalso; omega
  · exact ⟨by rw [hz, hy], _, _, _, _, _, _, _, hu, hu2, hT, hL, ⟨s1, s2, s3, s4, s5, (by rw [s6] : zXor (w 26) (zShl 1 y1) = zXor (v 23) (zShl 1 y1)), s7, s8⟩, hW, hD, hR, hM, ⟨c1, Or.inl rfl, c3⟩⟩
theorem pr_tell (hI : Inv v g ds ys w h) (h1 : QX11_tell a v g R ds ys y1 y2 y3 z u) (h2 : QX12_tell b w h y1 y2 y3 y u2) : z = y ∧ PR a b u u2 := by
  obtain ⟨hT, hL, ⟨s1, s2, s3, s4, s5, s6, s7, s8⟩, ⟨w1, w2⟩, hD, hR, hM, ⟨c1, c2, c3⟩⟩ := hI
  obtain ⟨z1, z2, z3, z4, z5, z6, z7⟩ := s1
  rcases h1 with ⟨hz, hu, hq⟩ | ⟨hz, hu, hq⟩ | ⟨hz, hu, hq⟩ | ⟨hz, hu, hq⟩ <;> rcases h2 with ⟨hy, hu2, hp⟩ | ⟨hy, hu2, hp⟩ | ⟨hy, hu2, hp⟩ | ⟨hy, hu2, hp⟩ <;> rw [s3] at hp <;> try (exfalso; omega)
  · exact ⟨by rw [hz, hy], _, _, _, _, _, _, _, hu, hu2, hT, hL, ⟨⟨z1, z2, z3, z4, z5, z6, z7⟩, s2, s3, s4, s5, s6, s7, s8⟩, ⟨w1, w2⟩, hD, hR, hM, ⟨c1, c2, c3⟩⟩
  · refine ⟨by rw [hz, hy], _, _, _, _, _, _, _, hu, hu2, hT, hL, ⟨⟨z1, z2, z3, z4, z5, z6, fun p a0 a1 => ?_⟩, s2, s3, s4, s5, s6, s7, fun p a0 a1 => ?_⟩, ⟨w1, fun p a0 a1 => ?_⟩, hD, hR, hM, ⟨c1, Or.inl rfl, c3⟩⟩
    · obtain ⟨x1, x2⟩ := z7 p a0 a1
      refine ⟨?_, x2⟩
      show -1 ≤ uZ (g 39) y1 y3 p ∧ uZ (g 39) y1 y3 p < v 13
      unfold uZ
      split <;> omega
    · obtain ⟨x1, x2, x3, x4⟩ := s8 p a0 a1
      show c5 (uZ (h 20) (5 * y1 + 3) y3) 3 p = uZ (g 39) y1 y3 p ∧ c5 (uZ (h 20) (5 * y1 + 3) y3) 4 p = g 40 p ∧ _ ∧ _
      rw [c5_F, c5_n (by decide) (by decide) (by decide)]
      refine ⟨?_, x2, x3, x4⟩
      unfold uZ
      split
      · rfl
      · exact x1
    · obtain ⟨x1, x2, x3⟩ := w2 p a0 a1
      show c5 (uZ (h 20) (5 * y1 + 3) y3) 0 p = g 32 p ∧ c5 (uZ (h 20) (5 * y1 + 3) y3) 1 p = g 33 p ∧ c5 (uZ (h 20) (5 * y1 + 3) y3) 2 p = g 34 p
      rw [c5_n (by decide) (by decide) (by decide), c5_n (by decide) (by decide) (by decide), c5_n (by decide) (by decide) (by decide)]
      exact ⟨x1, x2, x3⟩
  · refine ⟨by rw [hz, hy], _, _, _, _, _, _, _, hu, hu2, hT, hL, ⟨⟨z1, z2, z3, z4, z5, z6, fun p a0 a1 => ?_⟩, s2, s3, s4, s5, s6, s7, fun p a0 a1 => ?_⟩, ⟨w1, fun p a0 a1 => ?_⟩, hD, hR, hM, ⟨c1, Or.inl rfl, c3⟩⟩
    · obtain ⟨x1, x2, x3⟩ := z7 p a0 a1
      refine ⟨x1, ?_, x3⟩
      show 0 ≤ uZ (g 40) y1 y3 p ∧ uZ (g 40) y1 y3 p ≤ 10
      unfold uZ
      split <;> omega
    · obtain ⟨x1, x2, x3, x4⟩ := s8 p a0 a1
      show c5 (uZ (h 20) (5 * y1 + 4) y3) 3 p = g 39 p ∧ c5 (uZ (h 20) (5 * y1 + 4) y3) 4 p = uZ (g 40) y1 y3 p ∧ _ ∧ _
      rw [c5_H, c5_n (by decide) (by decide) (by decide)]
      refine ⟨x1, ?_, x3, x4⟩
      unfold uZ
      split
      · rfl
      · exact x2
    · obtain ⟨x1, x2, x3⟩ := w2 p a0 a1
      show c5 (uZ (h 20) (5 * y1 + 4) y3) 0 p = g 32 p ∧ c5 (uZ (h 20) (5 * y1 + 4) y3) 1 p = g 33 p ∧ c5 (uZ (h 20) (5 * y1 + 4) y3) 2 p = g 34 p
      rw [c5_n (by decide) (by decide) (by decide), c5_n (by decide) (by decide) (by decide), c5_n (by decide) (by decide) (by decide)]
      exact ⟨x1, x2, x3⟩
  · refine ⟨by rw [hz, hy], _, _, _, _, _, _, _, hu, hu2, hT, hL, ⟨⟨z1, z2, z3, z4, z5, z6, fun p a0 a1 => ?_⟩, s2, s3, s4, s5, s6, s7, fun p a0 a1 => ?_⟩, ⟨w1, w2⟩, hD, hR, hM, ⟨c1, Or.inl rfl, c3⟩⟩
    · obtain ⟨x1, x2, x3, x4⟩ := z7 p a0 a1
      refine ⟨x1, x2, x3, ?_⟩
      show 0 ≤ uZ (g 41) y1 y3 p ∧ uZ (g 41) y1 y3 p ≤ 50
      unfold uZ
      split <;> omega
    · obtain ⟨x1, x2, x3, x4⟩ := s8 p a0 a1
      refine ⟨x1, x2, x3, ?_⟩
      show uZ (h 24) y1 y3 p = uZ (g 41) y1 y3 p
      unfold uZ
      split
      · rfl
      · exact x4
theorem pr_roll (hI : Inv v g ds ys w h) (h1 : QX11_roll a v g R ds ys y1 y2 y3 z u) (h2 : QX12_roll b w h y1 y2 y3 y u2) : z = y ∧ PR a b u u2 := by
  obtain ⟨hT, hL, hS, hW, hD, ⟨r1, r2, r3⟩, hM, hK⟩ := hI
  have s3 := hS.2.2.1
  rcases h1 with ⟨hz, hu, hq⟩ | ⟨hz, hu, hq⟩ <;> rcases h2 with ⟨hy, hu2, hp⟩ | ⟨hy, hu2, hp⟩ <;> rw [s3, r2] at hp
  · exact ⟨by rw [hz, hy], _, _, _, _, _, _, _, hu, hu2, hT, hL, hS, hW, hD, ⟨r1, r2, r3⟩, hM, hK⟩
  · exact absurd hp hq
  · exact absurd hq hp
  · refine ⟨by rw [hz, hy, r2], _, _, _, _, _, _, _, hu, hu2, hT, hL, hS, hW, hD, ⟨⟨?_, ?_⟩, ?_, fun k a0 a1 => ?_⟩, hM, hK⟩
    · show 0 ≤ v 3 + 1; omega
    · show v 3 + 1 ≤ 20; omega
    · show w 46 + 1 = v 3 + 1; rw [r2]
    · show ((0 ≤ t3a (uZ (uZ (uZ (g 2) (v 3 * 3) y1) (v 3 * 3 + 1) y2) (v 3 * 3 + 2) y3) k ∧ t3a (uZ (uZ (uZ (g 2) (v 3 * 3) y1) (v 3 * 3 + 1) y2) (v 3 * 3 + 2) y3) k < v 13) ∧ (0 ≤ t3b (uZ (uZ (uZ (g 2) (v 3 * 3) y1) (v 3 * 3 + 1) y2) (v 3 * 3 + 2) y3) k ∧ t3b (uZ (uZ (uZ (g 2) (v 3 * 3) y1) (v 3 * 3 + 1) y2) (v 3 * 3 + 2) y3) k ≤ 29) ∧ (0 ≤ t3c (uZ (uZ (uZ (g 2) (v 3 * 3) y1) (v 3 * 3 + 1) y2) (v 3 * 3 + 2) y3) k ∧ t3c (uZ (uZ (uZ (g 2) (v 3 * 3) y1) (v 3 * 3 + 1) y2) (v 3 * 3 + 2) y3) k ≤ 9999)) ∧ uZ (h 43) (w 46) y1 k = t3a (uZ (uZ (uZ (g 2) (v 3 * 3) y1) (v 3 * 3 + 1) y2) (v 3 * 3 + 2) y3) k ∧ uZ (h 44) (w 46) y2 k = t3b (uZ (uZ (uZ (g 2) (v 3 * 3) y1) (v 3 * 3 + 1) y2) (v 3 * 3 + 2) y3) k ∧ uZ (h 45) (w 46) y3 k = t3c (uZ (uZ (uZ (g 2) (v 3 * 3) y1) (v 3 * 3 + 1) y2) (v 3 * 3 + 2) y3) k
      have a2 : k < v 3 + 1 := a1
      rw [t3a_p, t3b_p, t3c_p, r2]
      unfold uZ
      by_cases hk : k = v 3
      · rw [if_pos hk, if_pos hk, if_pos hk, if_pos hk, if_pos hk, if_pos hk]
        exact ⟨⟨hq.1, hq.2.1, hq.2.2.1⟩, rfl, rfl, rfl⟩
      · rw [if_neg hk, if_neg hk, if_neg hk, if_neg hk, if_neg hk, if_neg hk]
        exact r3 k a0 (by omega)
theorem pr_image (hI : Inv v g ds ys w h) (h1 : QX11_image a v g R ds ys z u) (h2 : QX12_image b w h y u2) : z = y ∧ PR a b u u2 := by
  obtain ⟨hT, hL, hS, hW, ⟨d1, d2, d3, d4, d5, d6, d7, d8, d9, d10⟩, hR, hM, hK⟩ := hI
  have s3 := hS.2.2.1
  have s8 := hS.2.2.2.2.2.2.2
  have sB := okZ_b hS.1
  rcases h1 with ⟨hz, hu, hq⟩ | ⟨hz, hu, hq⟩ <;> rcases h2 with ⟨hy, hu2, hp⟩ | ⟨I2, hy, hu2, hp, hp2⟩ <;> rw [s3] at hp
  · exact ⟨by rw [hz, hy], _, _, _, _, _, _, _, hu, hu2, hT, hL, hS, hW, ⟨d1, d2, d3, d4, d5, d6, d7, d8, d9, d10⟩, hR, hM, hK⟩
  · exfalso; omega
  · exfalso; omega
  · refine ⟨by rw [hz, hy, d6], _, _, _, _, _, _, _, hu, hu2, hT, hL, hS, hW, ⟨d1, d2, d3, d4, Or.inr rfl, d6, d7, rfl, d9, fun _ => ⟨d6, ?_, ?_, fun p a0 a1 => ?_⟩⟩, hR, hM, hK⟩
    · show 0 ≤ v 15; omega
    · show v 15 ≤ 1000; omega
    · have hp6 : p < 6 := by have := hS.1.2.1; exact Int.lt_of_lt_of_le a1 this
      show I2 p = cpZ (g 38) (g 0) 0 0 6 p ∧ 1 ≤ cpZ (g 38) (g 0) 0 0 6 p ∧ cpZ (g 38) (g 0) 0 0 6 p ≤ 199
      rw [cpZ_in ⟨a0, hp6⟩, hp2 p a0 hp6, (s8 p a0 a1).2.2.1]
      exact ⟨rfl, sB p a0 a1⟩
theorem pr_back (hI : Inv v g ds ys w h) (h1 : QX11_back a v g R ds ys z u) (h2 : QX12_back b w h y u2) : z = y ∧ PR a b u u2 := by
  obtain ⟨hT, hL, ⟨s1, s2, s3, s4, s5, s6, s7, s8⟩, hW, ⟨d1, d2, d3, d4, d5, d6, d7, d8, d9, d10⟩, hR, hM, ⟨c1, c2, c3⟩⟩ := hI
  rcases h1 with ⟨hz, hu, hq⟩ | ⟨hz, hu, hq⟩ <;> rcases h2 with ⟨hy, hu2, hp⟩ | ⟨B2, hy, hu2, hp, hp2⟩ <;> rw [d8] at hp
  · exact ⟨by rw [hz, hy], _, _, _, _, _, _, _, hu, hu2, hT, hL, ⟨s1, s2, s3, s4, s5, s6, s7, s8⟩, hW, ⟨d1, d2, d3, d4, d5, d6, d7, d8, d9, d10⟩, hR, hM, ⟨c1, c2, c3⟩⟩
  · exfalso; omega
  · exfalso; omega
  · obtain ⟨i1, i2, i3, i4⟩ := d10 hq
    have hp6 : ∀ p, p < v 13 → p < 6 := fun p a1 => Int.lt_of_lt_of_le a1 s1.2.1
    have eB : ∀ p, 0 ≤ p → p < v 13 → cpZ (g 0) (g 38) 0 0 6 p = g 0 p := fun p a0 a1 => cpZ_in ⟨a0, hp6 p a1⟩
    refine ⟨by rw [hz, hy, i1], _, _, _, _, _, _, _, hu, hu2, hT, hL, ⟨okZ_B s1 (fun p a0 a1 => ?_), s2, s3, s4, s5, s6, s7, fun p a0 a1 => ?_⟩, hW, ⟨d1, ?_, ?_, i3, d5, i1, rfl, d8, fun k a0 a1 => ?_, d10⟩, hR, hM, ⟨c1, Or.inl rfl, c3⟩⟩
    · show 1 ≤ cpZ (g 0) (g 38) 0 0 6 p ∧ cpZ (g 0) (g 38) 0 0 6 p ≤ 199
      rw [eB p a0 a1]
      exact (i4 p a0 a1).2
    · obtain ⟨x1, x2, x3, x4⟩ := s8 p a0 a1
      refine ⟨x1, x2, ?_, x4⟩
      show B2 p = cpZ (g 0) (g 38) 0 0 6 p
      rw [eB p a0 a1, hp2 p a0 (hp6 p a1)]
      exact (i4 p a0 a1).1
    · show (0 : Int) ≤ 0 ∧ (0 : Int) ≤ 60; omega
    · show 0 ≤ v 18; exact i2
    · exfalso
      have a2 : k < 0 := a1
      omega
theorem pr_undo (hI : Inv v g ds ys w h) (h1 : QX11_undo a v g R ds ys z u) (h2 : QX12_undo b w h y u2) : z = y ∧ PR a b u u2 := by
  obtain ⟨hT, hL, ⟨s1, s2, s3, s4, s5, s6, s7, s8⟩, hW, ⟨d1, d2, d3, d4, d5, d6, d7, d8, d9, d10⟩, hR, hM, ⟨c1, c2, c3⟩⟩ := hI
  rcases h1 with ⟨hz, hu, hq⟩ | ⟨hz, hu, hq⟩ <;> rcases h2 with ⟨hy, hu2, hp⟩ | ⟨B2, hy, hu2, hp, hp2⟩ <;> rw [d7] at hp
  · exact ⟨by rw [hz, hy], _, _, _, _, _, _, _, hu, hu2, hT, hL, ⟨s1, s2, s3, s4, s5, s6, s7, s8⟩, hW, ⟨d1, d2, d3, d4, d5, d6, d7, d8, d9, d10⟩, hR, hM, ⟨c1, c2, c3⟩⟩
  · exfalso; omega
  · exfalso; omega
  · have em : (v 19 + 60 - 1).tmod 60 = (v 19 + 60 - 1) % 60 := Int.tmod_eq_emod_of_nonneg (by omega)
    have em2 : (v 19 + 60 - 1) % 60 = (v 19 - 1 - 0) % 60 := by omega
    have hp6 : ∀ p, p < v 13 → p < 6 := fun p a1 => Int.lt_of_lt_of_le a1 s1.2.1
    have eB : ∀ p, 0 ≤ p → p < v 13 → cpZ (g 1) (g 38) ((v 19 + 60 - 1).tmod 60 * 6) 0 6 p = g 1 ((v 19 - 1 - 0) % 60 * 6 + p) := fun p a0 a1 => by
      rw [cpZ_at ⟨a0, by have := hp6 p a1; omega⟩, em, em2]
      congr 1
      omega
    refine ⟨by rw [hz, hy, d6], _, _, _, _, _, _, _, hu, hu2, hT, hL, ⟨okZ_B s1 (fun p a0 a1 => ?_), s2, s3, s4, s5, s6, s7, fun p a0 a1 => ?_⟩, hW, ⟨?_, ?_, ?_, ?_, d5, ?_, ?_, d8, fun k a0 a1 p b0 b1 => ?_, d10⟩, hR, hM, ⟨c1, Or.inl rfl, c3⟩⟩
    · show 1 ≤ cpZ (g 1) (g 38) ((v 19 + 60 - 1).tmod 60 * 6) 0 6 p ∧ cpZ (g 1) (g 38) ((v 19 + 60 - 1).tmod 60 * 6) 0 6 p ≤ 199
      rw [eB p a0 a1]
      exact (d9 0 (by omega) (by omega) p a0 a1).2
    · obtain ⟨x1, x2, x3, x4⟩ := s8 p a0 a1
      refine ⟨x1, x2, ?_, x4⟩
      show B2 p = cpZ (g 1) (g 38) ((v 19 + 60 - 1).tmod 60 * 6) 0 6 p
      rw [eB p a0 a1, hp2 p a0 (hp6 p a1), d7, ← (d9 0 (by omega) (by omega) p a0 a1).1]
      congr 1
      omega
    · show 0 ≤ (v 19 + 60 - 1).tmod 60 ∧ (v 19 + 60 - 1).tmod 60 ≤ 59
      rw [em]
      omega
    · show 0 ≤ v 16 - 1 ∧ v 16 - 1 ≤ 60; omega
    · show v 16 - 1 ≤ v 15 - 1; omega
    · show v 15 - 1 ≤ 1000; omega
    · show w 25 - 1 = v 15 - 1; rw [d6]
    · show w 32 - 1 = v 16 - 1; rw [d7]
    · have a2 : k < v 16 - 1 := a1
      show h 31 (6 * (v 16 - 1 - 1 - k) + p) = g 1 (((v 19 + 60 - 1).tmod 60 - 1 - k) % 60 * 6 + p) ∧ 1 ≤ g 1 (((v 19 + 60 - 1).tmod 60 - 1 - k) % 60 * 6 + p) ∧ g 1 (((v 19 + 60 - 1).tmod 60 - 1 - k) % 60 * 6 + p) ≤ 199
      rw [em, show ((v 19 + 60 - 1) % 60 - 1 - k) % 60 = (v 19 - 1 - (k + 1)) % 60 by omega, show v 16 - 1 - 1 - k = v 16 - 1 - (k + 1) by omega]
      exact d9 (k + 1) (by omega) (by omega) p b0 b1
theorem pr_day (hI : Inv v g ds ys w h) (h1 : QX11_day a v g R ds ys y1 z u) (h2 : QX12_day b w h ds y1 y u2) : z = y ∧ PR a b u u2 := by
  have hpl := hI.pl
  obtain ⟨hT, ⟨k1, k2, k3, e1, e2, k4⟩, ⟨s1, s2, s3, s4, s5, s6, s7, s8⟩, ⟨w1, w2⟩, ⟨d1, d2, d3, d4, d5, d6, d7, d8, d9, d10⟩, hR, hM, ⟨c1, c2, c3⟩⟩ := hI
  rcases h1 with ⟨hz, hu, hq⟩ | ⟨yy, hz, hu, hy2, hq⟩ <;> rcases h2 with ⟨hy, hu2, hp⟩ | ⟨B2, K2, ac2, L2, S2, hy, hu2, hp, hB2, hac2, hK1, hK2⟩ <;> rw [s3, d6] at hp
  · exact ⟨by rw [hz, hy], _, _, _, _, _, _, _, hu, hu2, hT, ⟨k1, k2, k3, e1, e2, k4⟩, ⟨s1, s2, s3, s4, s5, s6, s7, s8⟩, ⟨w1, w2⟩, ⟨d1, d2, d3, d4, d5, d6, d7, d8, d9, d10⟩, hR, hM, ⟨c1, c2, c3⟩⟩
  · exfalso; omega
  · exfalso; omega
  · obtain ⟨o1, o2⟩ := w1 (by omega)
    have em : (v 19 + 1).tmod 60 = (v 19 + 1) % 60 := Int.tmod_eq_emod_of_nonneg (by omega)
    have hp6 : ∀ p, p < v 13 → p < 6 := fun p a1 => Int.lt_of_lt_of_le a1 s1.2.1
    rw [d7] at hac2 hK2
    have hac : ac2 = min (v 16 + 1) 60 := by omega
    have eP : ∀ p, 0 ≤ p → p < v 13 → B2 p = paF (g 34) (g 33) (v 14) y1 (aDy (v 2) (csA ds (v 2)) (v 14) (v 13) (v 15)) (v 13) (g 38) p := fun p a0 a1 => by
      rw [hB2, s3, o2, e2, d6]
      exact paF_e ⟨(w2 p a0 a1).2.2, (w2 p a0 a1).2.1, (s8 p a0 a1).2.2.1⟩
    have sB := okZ_b s1
    refine ⟨by rw [hz, hy, d6], _, _, _, _, _, _, _, hu, hu2, hT, ⟨k1, hy2, k3, e1, e2, k4⟩, ⟨okZ_B s1 (fun p a0 a1 => paF_in ⟨o1.1, o1.2.1⟩ a0 a1), s2, s3, s4, s5, s6, s7, fun p a0 a1 => ?_⟩, ⟨w1, w2⟩, ⟨?_, ?_, ?_, ?_, d5, ?_, ?_, d8, fun k a0 a1 p b0 b1 => ?_, d10⟩, hR, hM, ⟨c1, Or.inl rfl, c3⟩⟩
    · obtain ⟨x1, x2, x3, x4⟩ := s8 p a0 a1
      exact ⟨x1, x2, eP p a0 a1, x4⟩
    · show 0 ≤ (v 19 + 1).tmod 60 ∧ (v 19 + 1).tmod 60 ≤ 59
      rw [em]
      omega
    · show 0 ≤ min (v 16 + 1) 60 ∧ min (v 16 + 1) 60 ≤ 60; omega
    · show min (v 16 + 1) 60 ≤ v 15 + 1; omega
    · show v 15 + 1 ≤ 1000; omega
    · show w 25 + 1 = v 15 + 1; rw [d6]
    · exact hac
    · have a2 : k < min (v 16 + 1) 60 := a1
      have hb := hp6 p b1
      show K2 (6 * (min (v 16 + 1) 60 - 1 - k) + p) = cpZ (g 38) (g 1) 0 (v 19 * 6) 6 (((v 19 + 1).tmod 60 - 1 - k) % 60 * 6 + p) ∧ 1 ≤ cpZ (g 38) (g 1) 0 (v 19 * 6) 6 (((v 19 + 1).tmod 60 - 1 - k) % 60 * 6 + p) ∧ cpZ (g 38) (g 1) 0 (v 19 * 6) 6 (((v 19 + 1).tmod 60 - 1 - k) % 60 * 6 + p) ≤ 199
      rw [em, show ((v 19 + 1) % 60 - 1 - k) % 60 = (v 19 - k) % 60 by omega]
      by_cases hk : k = 0
      · subst hk
        rw [show (v 19 - 0) % 60 = v 19 by omega, cpZ_at ⟨by omega, by omega⟩, show 0 + (v 19 * 6 + p - v 19 * 6) = p by omega, show min (v 16 + 1) 60 - 1 - 0 = ac2 - 1 by omega, hK1 p b0 hb]
        exact ⟨(s8 p b0 b1).2.2.1, sB p b0 b1⟩
      · have hne : (v 19 - k) % 60 ≠ v 19 := by omega
        have hr : 0 ≤ (v 19 - k) % 60 ∧ (v 19 - k) % 60 < 60 := by omega
        rw [cpZ_out (by omega), hK2 _ (by omega) (by omega)]
        have e9 := d9 (k - 1) (by omega) (by omega) p b0 b1
        rw [show (v 19 - 1 - (k - 1)) % 60 = (v 19 - k) % 60 by omega] at e9
        rw [show 6 * (min (v 16 + 1) 60 - 1 - k) + p + 6 * (v 16 + 1 - ac2) = 6 * (v 16 - 1 - (k - 1)) + p by omega]
        exact e9
theorem pr_damp (hI : Inv v g ds ys w h) (h1 : QX11_damp a v g R ds ys y1 z u) (h2 : (w 21 = 0 ∧ y = -1 ∧ u2 = RW b w h) ∨ (1 ≤ w 21 ∧ QX12_damp b w h ds y1 y u2)) : z = y ∧ PR a b u u2 := by
  obtain ⟨hT, ⟨k1, k2, k3, e1, e2, k4⟩, hS, hW, hD, hR, hM, hK⟩ := hI
  have s3 := hS.2.2.1
  obtain ⟨yy, hz, hu, hy2⟩ := h1
  rcases h2 with ⟨hp, hy, hu2⟩ | ⟨hp, L2, S2, hy, hu2⟩ <;> rw [s3] at hp
  · refine ⟨?_, _, _, _, _, _, _, _, hu, hu2, hT, ⟨k1, hy2, k3, e1, e2, k4⟩, hS, hW, hD, hR, hM, hK⟩
    rw [hz, hy]
    unfold aDamp
    rw [if_neg (by omega)]
  · refine ⟨?_, _, _, _, _, _, _, _, hu, hu2, hT, ⟨k1, hy2, k3, e1, e2, k4⟩, hS, hW, hD, hR, hM, hK⟩
    rw [hz, hy, s3, e2, (hW.1 hp).2]
theorem tn_e {T T2 : Int → Int} {n n2 : Int} {R : Int → Int → Int} {x y : Int ⊕ TS} (eT : T2 = T) (en : n2 = n) (h1 : tnRes T n R = x) (h2 : tnRes T2 n2 R = y) : x = y := by
  rw [← h1, ← h2, eT, en]
theorem pr_fault (hI : Inv v g ds ys w h) (h1 : QX11_fault a v g R ds ys y1 z u) (h2 : QX12_fault b w h R y1 y u2) : z = y ∧ PR a b u u2 := by
  obtain ⟨⟨kT, eT, en⟩, ⟨k1, k2, k3, e1, e2, k4⟩, hS, hW, hD, hR, hM, hK⟩ := hI
  have lr := lw_rel (T := g 21) (n := v 4) kT.2.1 kT.1
  rcases h1 with ⟨fl, a2, x2, p2, m2, R2, hz, hu, hv, hr, hfl⟩ | ⟨a2, x2, p2, m2, R2, hz, hu, hv, hr, hk⟩ | ⟨fl, a2, x2, C2, hz, hu, hv, hr, hfl⟩ | ⟨a2, ts, hz, hu, hv, hr, hl, ht2⟩ | ⟨hz, hu, hv⟩ <;>
    rcases h2 with ⟨a3, f3, p3, m3, R3, hy, hu2, hp, hpr, hpf⟩ | ⟨a3, p3, m3, x3, R3, Rc, hy, hu2, hp, hpr, hpf, hpk⟩ | ⟨a3, f3, q3, dp3, j3, w3, C3, V3, Tf3, Sf3, Ef3, hy, hu2, hp, hpr, hpf, fC, fV, fT, fS, fE⟩ | ⟨a3, cs, hy, hu2, hp, hpr, hpl⟩ | ⟨hy, hu2, hp⟩ <;> try (exfalso; omega)
  · have e := Sum.inl.inj (tn_e eT en hr hpr)
    exact ⟨by rw [hz, hy, e], _, _, _, _, _, _, _, hu, hu2, ⟨kT, eT, en⟩, ⟨k1, k2, k3, e1, e2, k4⟩, hS, hW, hD, hR, hM, hK⟩
  · exact nomatch (tn_e eT en hr hpr)
  · exact nomatch (tn_e eT en hr hpr)
  · exact ⟨by rw [hz, hy], _, _, _, _, _, _, _, hu, hu2, ⟨kT, eT, en⟩, ⟨k1, k2, k3, e1, e2, k4⟩, hS, hW, hD, hR, hM, hK⟩
  · rw [eT, en] at hpr
    rw [hr, hpr] at lr
    have e := Sum.inl.inj lr
    refine ⟨by rw [hz, hy, e], _, _, _, _, _, _, _, hu, hu2, ⟨kT, eT, en⟩, ⟨k1, k2, k3, e1, e2, fun i a0 a1 => ?_⟩, hS, hW, hD, hR, hM, hK⟩
    have a9 : i < v 1 := a1
    exact lawAt_e (tx := 4) (k4 i a0 a1) a0 (by omega) fC fV fT fS fE (uZ_ne (by omega))
  · rw [eT, en] at hpr
    rw [hr, hpr] at lr
    exact nomatch lr
  · rw [eT, en] at hpr
    rw [hr, hpr] at lr
    exact nomatch lr
  · refine ⟨by rw [hz, hy], _, _, _, _, _, _, _, hu, hu2, ⟨kT, eT, en⟩, ⟨k1, k2, k3, e1, e2, fun i a0 a1 => ?_⟩, hS, hW, hD, hR, hM, hK⟩
    have a9 : i < v 1 := a1
    exact lawAt_e (tx := 4) (k4 i a0 a1) a0 (by omega) (frm_r (by omega) (by omega)) (frm_r (by omega) (by omega)) (frp_rT (by omega)) (frp_rS (by omega)) (frp_rE (by omega)) (uZ_ne (by omega))
  · exact ⟨by rw [hz, hy], _, _, _, _, _, _, _, hu, hu2, ⟨kT, eT, en⟩, ⟨k1, k2, k3, e1, e2, k4⟩, hS, hW, hD, hR, hM, hK⟩
theorem pr_text (hI : Inv v g ds ys w h) (h1 : QX11_text a v g R ds ys y1 z u) (h2 : QX12_text b w h R y1 y u2) : z = y ∧ PR a b u u2 := by
  obtain ⟨⟨kT, eT, en⟩, ⟨k1, k2, k3, e1, e2, k4⟩, ⟨s1, s2, s3, s4, s5, s6, s7, s8⟩, ⟨w1, w2⟩, hD, hR, hM, ⟨c1, c2, c3⟩⟩ := hI
  have lr := lw_rel (T := g 21) (n := v 4) kT.2.1 kT.1
  have ok0 : okT (g 21) 0 := ⟨by omega, by omega, fun j a0 a1 => by omega⟩
  rcases h1 with ⟨hz, hu, hv⟩ | ⟨fl, a2, x2, p2, m2, R2, hz, hu, hv, hr⟩ | ⟨a2, x2, p2, m2, R2, B2, D2, K2, F2, H2, B3, F3, H3, L3, yy, hz, hu, hv, hr, hk, hB2, hD2, hK2, hF2, hH2, hB3, hF3, hH3, hL3, hy2⟩ | ⟨hz, hu, hv, hl⟩ | ⟨fl, a2, x2, C2, hz, hu, hv, hl, hr⟩ | ⟨a2, x2, C2, cs, x9, v9, hz, hu, hv, hl, hr, hcs, hok, hkn⟩ <;>
    rcases h2 with ⟨a3, f3, p3, m3, R3, hy, hu2, hp, hpr, hpf⟩ | ⟨a3, p3, m3, x3, R3, Rc, Q4, B4, E4, hy, hu2, hp, hpr, hpf, hpk, hQ4, hB4, hE4⟩ | ⟨a3, f3, q3, dp3, j3, w3, t3, C3, V3, Tf3, Sf3, Ef3, hy, hu2, hp, hpr, hpf, fC, fV, fT, fS, fE⟩ | ⟨a3, cs3, hy, hu2, hp, hpr, hpl⟩ | ⟨hy, hu2, hp⟩ <;> try (exfalso; omega)
  · exact ⟨by rw [hz, hy], _, _, _, _, _, _, _, hu, hu2, ⟨kT, eT, en⟩, ⟨k1, k2, k3, e1, e2, k4⟩, ⟨s1, s2, s3, s4, s5, s6, s7, s8⟩, ⟨w1, w2⟩, hD, hR, hM, ⟨c1, c2, c3⟩⟩
  · exact ⟨by rw [hz, hy], _, _, _, _, _, _, _, hu, hu2, ⟨kT, eT, en⟩, ⟨k1, k2, k3, e1, e2, k4⟩, ⟨s1, s2, s3, s4, s5, s6, s7, s8⟩, ⟨w1, w2⟩, hD, hR, hM, ⟨c1, c2, c3⟩⟩
  · exact nomatch (tn_e eT en hr hpr)
  · exact nomatch (tn_e eT en hr hpr)
  · have e := Sum.inr.inj (tn_e eT en hr hpr)
    simp only [Prod.mk.injEq] at e
    obtain ⟨ep, em, ex, eR⟩ := e
    subst ep
    subst em
    subst ex
    subst eR
    have z := op_z (n := v 21) (ec := v 22) hr hk ⟨s1.2.2.1, s1.2.2.2.1⟩ ⟨s1.2.2.2.2.1, s1.2.2.2.2.2.1⟩ hB3 hF3 hH3 hL3
    have hp6 : ∀ p, p < p2 → p < 6 := fun p a1 => Int.lt_of_lt_of_le a1 z.2.1
    have eQ : ∀ p j, 0 ≤ p → p < p2 → 0 ≤ j → j ≤ 4 → c5 Q4 j p = colR R2 j p := fun p j a0 a1 b0 b1 => by
      have h6 := hp6 p a1
      show Q4 (5 * p + j) = R2 p j
      rw [hQ4 _ (by omega) (by omega), hpf p j a0 a1 b0 b1]
    refine ⟨by rw [hz, hy], _, _, _, _, _, _, _, hu, hu2, ⟨ok0, eT, rfl⟩, ⟨k1, hy2, k3, e1, e2, k4⟩, ⟨z, s2, rfl, s4, s5, rfl, s7, fun p a0 a1 => ?_⟩, ⟨fun _ => ⟨op_dy hk hK2 hD2, rfl⟩, fun p a0 a1 => ?_⟩, ⟨(by decide : (0 : Int) ≤ 0 ∧ (0 : Int) ≤ 59), (by decide : (0 : Int) ≤ 0 ∧ (0 : Int) ≤ 60), Int.le_refl 0, (by decide : (0 : Int) ≤ 1000), Or.inl rfl, rfl, rfl, rfl, fun k b0 b1 => ?_, fun b0 => ?_⟩, ⟨(by decide : (0 : Int) ≤ 0 ∧ (0 : Int) ≤ 20), rfl, fun k b0 b1 => ?_⟩, hM, ⟨c1, Or.inl rfl, c3⟩⟩
    · have h6 := hp6 p a1
      show c5 Q4 3 p = F3 p ∧ c5 Q4 4 p = H3 p ∧ B4 p = B3 p ∧ E4 p = L3 p
      rw [eQ p 3 a0 a1 (by decide) (by decide), eQ p 4 a0 a1 (by decide) (by decide), hF3 p a0 h6, hH3 p a0 h6, hB3 p a0 h6, hL3 p a0 h6, hB4 p a0 h6, hE4 p a0 h6]
      refine ⟨rfl, rfl, ?_, rfl⟩
      have e9 := hpf p 0 a0 a1 (by decide) (by decide)
      rw [show 5 * p + 0 = 5 * p by omega] at e9
      exact e9
    · have h6 := hp6 p a1
      show c5 Q4 0 p = B2 p ∧ c5 Q4 1 p = D2 p ∧ c5 Q4 2 p = K2 p
      rw [eQ p 0 a0 a1 (by decide) (by decide), eQ p 1 a0 a1 (by decide) (by decide), eQ p 2 a0 a1 (by decide) (by decide), hB2 p a0 h6, hD2 p a0 h6, hK2 p a0 h6]
      exact ⟨rfl, rfl, rfl⟩
    · exfalso
      have b2 : k < 0 := b1
      omega
    · exact absurd (show (0 : Int) = 1 from b0) (by decide)
    · exfalso
      have b2 : k < 0 := b1
      omega
  · exact ⟨by rw [hz, hy], _, _, _, _, _, _, _, hu, hu2, ⟨kT, eT, en⟩, ⟨k1, k2, k3, e1, e2, k4⟩, ⟨s1, s2, s3, s4, s5, s6, s7, s8⟩, ⟨w1, w2⟩, hD, hR, hM, ⟨c1, c2, c3⟩⟩
  · refine ⟨by rw [hz, hy], _, _, _, _, _, _, _, hu, hu2, ⟨kT, eT, en⟩, ⟨k1, k2, k3, e1, e2, fun i a0 a1 => ?_⟩, ⟨s1, s2, s3, s4, s5, s6, s7, s8⟩, ⟨w1, w2⟩, hD, hR, hM, ⟨c1, c2, c3⟩⟩
    have a9 : i < v 1 := a1
    exact lawAt_e (tx := w 13) (k4 i a0 a1) a0 (by omega) fC fV fT fS fE (uZ_ne (by omega))
  · rw [eT, en] at hpr
    rw [hr, hpr] at lr
    exact nomatch lr
  · rw [eT, en] at hpr
    rw [hr] at hpr
    exact nomatch hpr
  · rw [eT, en] at hpr
    rw [hr] at hpr
    have ec : cs = cs3 := Sum.inr.inj hpr
    subst ec
    have key := lawAt_new (C := h 6) (V := h 7) (Lk := h 9) (Tf := h 10) (Sf := h 11) (Ef := h 12) (i := w 13) (by omega) kT.2.1 kT.1 hr hpl
    have hlen : ds.length = (v 1).toNat := by omega
    refine ⟨by rw [hz, hy, e1], _, _, _, _, _, _, _, hu, hu2, ⟨ok0, eT, rfl⟩, ⟨⟨?_, ?_, ?_⟩, okW.snoc k2 hok hkn, ⟨k3.1, ?_⟩, ?_, e2, fun i a0 a1 => ?_⟩, ⟨s1, s2, s3, s4, s5, s6, s7, s8⟩, ⟨w1, w2⟩, hD, hR, hM, ⟨c1, c2, c3⟩⟩
    · show (((ds ++ [x9]).length : Nat) : Int) = v 1 + 1
      rw [List.length_append, List.length_singleton]
      omega
    · show 0 ≤ v 1 + 1; omega
    · show v 1 + 1 ≤ 4; omega
    · show v 2 < v 1 + 1; omega
    · show w 13 + 1 = v 1 + 1; rw [e1]
    · have a9 : i < v 1 + 1 := a1
      by_cases hi : i = w 13
      · subst hi
        have e9 : csA (ds ++ [x9]) (w 13) = cs := by
          rw [csA_at (i := ds.length) (x := x9) (by rw [List.getElem?_append_right (Nat.le_refl _), Nat.sub_self]; rfl) (by omega), hcs]
        rw [e9]
        exact key
      · rw [csA_snoc a0 (by omega)]
        exact lawAt_e (tx := w 13) (k4 i a0 (by omega)) a0 hi (frm_r (by omega) (by omega)) (frm_r (by omega) (by omega)) (frp_rT (by omega)) (frp_rS (by omega)) (frp_rE (by omega)) (uZ_ne hi)
end PP
end pt_98pairs
/- 99.pairs2.lean.txt -/
section pt_99pairs2
def QX12_player (b : Nat → Nat) (w : Nat → Int) (h : Nat → Int → Int) (y1 y2 : Int) (z : Int) (u : EW) : Prop := (z = 0 ∧ u = RW b (uF w 0 1) h ∧ (¬ ((0 ≤ y1 ∧ y1 < (w 21)) ∧ 0 ≤ y2 ∧ y2 ≤ 6))) ∨ (∃ z9 : Int, z = z9 ∧ u = RW b (uF w 0 0) h ∧ ((0 ≤ y1 ∧ y1 < (w 21)) ∧ 0 ≤ y2 ∧ y2 ≤ 6) ∧ z9 = plR (h 20) (h 23) (h 24) y1 y2)
set_option maxRecDepth 100000 in
set_option maxHeartbeats 4000000 in
theorem qX12_player (l : Launch) (b : Nat → Nat) (w : Nat → Int) (h : Nat → Int → Int) (y1 y2 : Int) (hpl : 0 ≤ (w 21) ∧ (w 21) ≤ 6) (hx_pp : inR y1) (hx_v : inR y2) : AMi l yX12_player cX12_player 3 .int 2 0 0 [rv (b 0), iv y1, iv y2] (RW b w h) (QX12_player b w h y1 y2) := by
  have hk := (kX12_player l (b 0) (o11 b w) (w 21) (b 20) (b 23) (b 24) (h 20) (h 23) (h 24) (w 0) y1 y2 rfl rfl rfl rfl hpl hx_pp hx_v)
  simp only [Po11_0, uF_self] at hk
  refine AMi.gE (is := [0, 12, 13, 14]) [1, 2, 3, 4, 5, 6, 7, 8, 9, 10, 11, 15, 16, 17, 18, 19, 20, 21, 22, 23, 24, 25, 26, 27] 28 hk rfl rfl (by decide +kernel) (by decide +kernel) (fun z u hq => ?_)
  rcases hq with ⟨hz, hu, hq⟩ | ⟨z9, hz, hu, hq, hz9⟩
  · subst hu
    exact ⟨rfl, RW b (uF w 0 1) h, rfl, rfl, RW_rest (by decide) rfl, Or.inl ⟨hz, rfl, hq⟩⟩
  · subst hu
    exact ⟨rfl, RW b (uF w 0 0) h, rfl, rfl, RW_rest (by decide) rfl, Or.inr (⟨z9, hz, rfl, hq, hz9⟩)⟩
section P2
variable {a b : Nat → Nat} {v : Nat → Int} {g : Nat → Int → Int} {R : Int → Int → Int} {ds : List LwS} {ys : Nat → LwY} {w : Nat → Int} {h : Nat → Int → Int} {z y y1 y2 y3 y4 y5 : Int} {u u2 : EW}
theorem pr_time (hI : Inv v g ds ys w h) (h1 : QX11_time a v g R ds ys y1 y2 y3 z u) (h2 : QX12_time b w h y1 y2 y3 y u2) : PR a b u u2 := by
  obtain ⟨hT, hL, hS, hW, hD, hR, hM, hK⟩ := hI
  obtain ⟨p9_a, n9_a, k9_a, A2_a, T2_a, W2_a, S2_a, hz_a, hu_a⟩ := h1
  obtain ⟨A2_b, M2_b, W2_b, hz_b, hu_b⟩ := h2
  exact ⟨_, _, _, _, _, _, _, hu_a, hu_b, hT, hL, hS, hW, hD, hR, hM, hK⟩
theorem pr_spread (hI : Inv v g ds ys w h) (h1 : QX11_spread a v g R ds ys y1 z u) (h2 : QX12_spread b w h y1 y u2) : PR a b u u2 := by
  obtain ⟨hT, hL, hS, hW, hD, hR, hM, hK⟩ := hI
  obtain ⟨p9_a, n9_a, k9_a, A2_a, T2_a, W2_a, S2_a, hz_a, hu_a⟩ := h1
  obtain ⟨A2_b, M2_b, W2_b, hz_b, hu_b⟩ := h2
  exact ⟨_, _, _, _, _, _, _, hu_a, hu_b, hT, hL, hS, hW, hD, hR, hM, hK⟩
theorem pr_worst (hI : Inv v g ds ys w h) (h1 : QX11_worst a v g R ds ys y1 z u) (h2 : QX12_worst b w h y1 y u2) : PR a b u u2 := by
  obtain ⟨hT, hL, hS, hW, hD, hR, hM, hK⟩ := hI
  obtain ⟨p9_a, n9_a, k9_a, A2_a, T2_a, W2_a, S2_a, hz_a, hu_a⟩ := h1
  obtain ⟨A2_b, M2_b, W2_b, hz_b, hu_b⟩ := h2
  exact ⟨_, _, _, _, _, _, _, hu_a, hu_b, hT, hL, hS, hW, hD, hR, hM, hK⟩
theorem pr_parts (hI : Inv v g ds ys w h) (h1 : QX11_parts a v g R ds ys  z u) (h2 : QX12_parts b w h  y u2) : PR a b u u2 := by
  obtain ⟨hT, hL, hS, hW, hD, hR, hM, hK⟩ := hI
  obtain ⟨p9_a, n9_a, k9_a, A2_a, T2_a, W2_a, S2_a, hz_a, hu_a⟩ := h1
  obtain ⟨A2_b, M2_b, W2_b, hz_b, hu_b⟩ := h2
  exact ⟨_, _, _, _, _, _, _, hu_a, hu_b, hT, hL, hS, hW, hD, hR, hM, hK⟩
theorem pr_last (hI : Inv v g ds ys w h) (h1 : QX11_last a v g R ds ys y1 z u) (h2 : QX12_last b w h y1 y u2) : PR a b u u2 := by
  obtain ⟨hT, hL, hS, hW, hD, hR, hM, hK⟩ := hI
  obtain ⟨p9_a, n9_a, k9_a, A2_a, T2_a, W2_a, S2_a, hz_a, hu_a⟩ := h1
  obtain ⟨A2_b, M2_b, W2_b, hz_b, hu_b⟩ := h2
  exact ⟨_, _, _, _, _, _, _, hu_a, hu_b, hT, hL, hS, hW, hD, hR, hM, hK⟩
theorem pr_settle (hI : Inv v g ds ys w h) (h1 : QX11_settle a v g R ds ys y1 z u) (h2 : QX12_settle b w h y1 y u2) : PR a b u u2 := by
  obtain ⟨hT, hL, hS, hW, hD, hR, hM, hK⟩ := hI
  obtain ⟨z9_a, p9_a, n9_a, k9_a, s6_a, s7_a, A2_a, W2_a, hz_a, hu_a, hs_a⟩ := h1
  obtain ⟨z9_b, A2_b, hz_b, hu_b, hs_b⟩ := h2
  exact ⟨_, _, _, _, _, _, _, hu_a, hu_b, hT, hL, hS, hW, hD, hR, hM, hK⟩
theorem pr_ring (hI : Inv v g ds ys w h) (h1 : QX11_ring a v g R ds ys y1 z u) (h2 : QX12_ring b w h y1 y u2) : PR a b u u2 := by
  obtain ⟨hT, hL, hS, hW, hD, hR, hM, hK⟩ := hI
  obtain ⟨hz_a, hu_a⟩ := h1
  obtain ⟨hz_b, hu_b⟩ := h2
  exact ⟨_, _, _, _, _, _, _, hu_a, hu_b, hT, hL, hS, hW, hD, hR, hM, hK⟩
theorem pr_head (hI : Inv v g ds ys w h) (h1 : QX11_head a v g R ds ys y1 z u) (h2 : QX12_head b w h y1 y u2) : PR a b u u2 := by
  obtain ⟨hT, hL, hS, hW, hD, hR, hM, hK⟩ := hI
  obtain ⟨hz_a, hu_a⟩ := h1
  obtain ⟨hz_b, hu_b⟩ := h2
  exact ⟨_, _, _, _, _, _, _, hu_a, hu_b, hT, hL, hS, hW, hD, hR, hM, hK⟩
theorem pr_week (hI : Inv v g ds ys w h) (h1 : QX11_week a v g R ds ys y1 z u) (h2 : (w 21 = 0 ∧ y = -1 ∧ u2 = RW b w h) ∨ (1 ≤ w 21 ∧ QX12_week b w h ds y1 y u2)) : PR a b u u2 := by
  obtain ⟨hT, hL, hS, hW, hD, hR, hM, hK⟩ := hI
  obtain ⟨z9_a, r2_a, l2_a, p9_a, n9_a, k9_a, A2_a, T2_a, W2_a, S2_a, B4_a, B3_a, F3_a, H3_a, L3_a, Kw2_a, t4_a, t5_a, t6_a, t7_a, k2_a, y2_a, hz_a, hu_a, hy2_a, h1_a, h2_a, h3_a⟩ := h1
  obtain ⟨k1, k2, k3⟩ := hL
  rcases h2 with ⟨hp, hz_b, hu_b⟩ | ⟨hp, h2⟩
  · exact ⟨_, _, _, _, _, _, _, hu_a, hu_b, hT, ⟨k1, hy2_a, k3⟩, hS, hW, hD, hR, hM, ⟨h1_a, h2_a, h3_a⟩⟩
  · obtain ⟨r3_b, l3_b, A2_b, M2_b, W2_b, Wb2_b, Wd2_b, L2_b, S2_b, hz_b, hu_b⟩ := h2
    exact ⟨_, _, _, _, _, _, _, hu_a, hu_b, hT, ⟨k1, hy2_a, k3⟩, hS, hW, hD, hR, hM, ⟨h1_a, h2_a, h3_a⟩⟩
theorem pr_leader (hI : Inv v g ds ys w h) (h1 : QX11_leader a v g R ds ys y1 y2 z u) (h2 : QX12_leader b w h y1 y2 y u2) : PR a b u u2 := by
  obtain ⟨hT, hL, hS, hW, hD, hR, hM, hK⟩ := hI
  obtain ⟨p9_a, n9_a, k9_a, A2_a, T2_a, W2_a, S2_a, t4_a, t5_a, t6_a, t7_a, B3_a, F3_a, H3_a, L3_a, hz_a, hu_a⟩ := h1
  obtain ⟨A2_b, M2_b, W2_b, hz_b, hu_b⟩ := h2
  exact ⟨_, _, _, _, _, _, _, hu_a, hu_b, hT, hL, hS, hW, hD, hR, hM, hK⟩
theorem pr_marks (hI : Inv v g ds ys w h) (h1 : QX11_marks a v g R ds ys y1 z u) (h2 : QX12_marks b w h y1 y u2) : PR a b u u2 := by
  obtain ⟨hT, hL, hS, hW, hD, hR, hM, hK⟩ := hI
  obtain ⟨z9_a, p9_a, n9_a, k9_a, A2_a, T2_a, W2_a, S2_a, f2_a, b2_a, Cn2_a, Mm2_a, Sm2_a, hz_a, hu_a, h1_a, h2_a, h3_a, h4_a⟩ := h1
  obtain ⟨z9_b, A2_b, F2_b, B2_b, S2_b, hz_b, hu_b⟩ := h2
  exact ⟨_, _, _, _, _, _, _, hu_a, hu_b, hT, hL, hS, hW, hD, hR, ⟨h1_a, h2_a, h3_a, h4_a⟩, hK⟩
theorem pr_odds (hI : Inv v g ds ys w h) (h1 : QX11_odds a v g R ds ys y1 y2 z u) (h2 : (w 21 = 0 ∧ y = -1 ∧ u2 = RW b w h) ∨ (1 ≤ w 21 ∧ QX12_odds b w h y1 y2 y u2)) : PR a b u u2 := by
  obtain ⟨hT, hL, hS, hW, hD, hR, hM, hK⟩ := hI
  obtain ⟨z9_a, p9_a, n9_a, k9_a, A2_a, T2_a, W2_a, S2_a, t4_a, t5_a, t6_a, t7_a, B3_a, F3_a, H3_a, L3_a, hz_a, hu_a⟩ := h1
  rcases h2 with ⟨hp, hz_b, hu_b⟩ | ⟨hp, h2⟩
  · exact ⟨_, _, _, _, _, _, _, hu_a, hu_b, hT, hL, hS, hW, hD, hR, hM, hK⟩
  · obtain ⟨A2_b, M2_b, W2_b, Wb2_b, hz_b, hu_b⟩ := h2
    exact ⟨_, _, _, _, _, _, _, hu_a, hu_b, hT, hL, hS, hW, hD, hR, hM, hK⟩
theorem pr_paid (hI : Inv v g ds ys w h) (h1 : QX11_paid a v g R ds ys y1 z u) (h2 : QX12_paid b w h y1 y u2) : PR a b u u2 := by
  obtain ⟨hT, hL, hS, hW, hD, hR, hM, hK⟩ := hI
  obtain ⟨z9_a, p9_a, n9_a, k9_a, A2_a, T2_a, W2_a, S2_a, t4_a, t5_a, t6_a, t7_a, B3_a, F3_a, H3_a, L3_a, hz_a, hu_a, hs_a⟩ := h1
  obtain ⟨z9_b, A2_b, M2_b, W2_b, hz_b, hu_b, hs_b⟩ := h2
  exact ⟨_, _, _, _, _, _, _, hu_a, hu_b, hT, hL, hS, hW, hD, hR, hM, hK⟩
theorem pr_fits (hI : Inv v g ds ys w h) (h1 : QX11_fits a v g R ds ys y1 z u) (h2 : QX12_fits b w h y1 y u2) : PR a b u u2 := by
  obtain ⟨hT, hL, hS, hW, hD, hR, hM, hK⟩ := hI
  obtain ⟨p9_a, n9_a, k9_a, A2_a, T2_a, W2_a, S2_a, t4_a, t5_a, t6_a, t7_a, B3_a, F3_a, H3_a, L3_a, hz_a, hu_a⟩ := h1
  obtain ⟨A2_b, M2_b, W2_b, hz_b, hu_b⟩ := h2
  exact ⟨_, _, _, _, _, _, _, hu_a, hu_b, hT, hL, hS, hW, hD, hR, hM, hK⟩
theorem pr_deaf (hI : Inv v g ds ys w h) (h1 : QX11_deaf a v g R ds ys y1 z u) (h2 : QX12_deaf b w h y1 y u2) : PR a b u u2 := by
  obtain ⟨hT, hL, hS, hW, hD, hR, hM, hK⟩ := hI
  obtain ⟨p9_a, n9_a, k9_a, A2_a, T2_a, W2_a, S2_a, t4_a, t5_a, t6_a, t7_a, B3_a, F3_a, H3_a, L3_a, hz_a, hu_a⟩ := h1
  obtain ⟨A2_b, M2_b, W2_b, hz_b, hu_b⟩ := h2
  exact ⟨_, _, _, _, _, _, _, hu_a, hu_b, hT, hL, hS, hW, hD, hR, hM, hK⟩
theorem pr_echoes (hI : Inv v g ds ys w h) (h1 : QX11_echoes a v g R ds ys y1 z u) (h2 : QX12_echoes b w h y1 y u2) : PR a b u u2 := by
  obtain ⟨hT, hL, hS, hW, hD, hR, hM, hK⟩ := hI
  obtain ⟨p9_a, n9_a, k9_a, A2_a, T2_a, W2_a, S2_a, t4_a, t5_a, t6_a, t7_a, B3_a, F3_a, H3_a, L3_a, hz_a, hu_a⟩ := h1
  obtain ⟨A2_b, M2_b, W2_b, hz_b, hu_b⟩ := h2
  exact ⟨_, _, _, _, _, _, _, hu_a, hu_b, hT, hL, hS, hW, hD, hR, hM, hK⟩
theorem pr_gift (hI : Inv v g ds ys w h) (h1 : QX11_gift a v g R ds ys y1 z u) (h2 : (w 21 = 0 ∧ y = -1 ∧ u2 = RW b w h) ∨ (1 ≤ w 21 ∧ QX12_gift b w h ds y1 y u2)) : PR a b u u2 := by
  obtain ⟨hT, hL, hS, hW, hD, hR, hM, hK⟩ := hI
  obtain ⟨z9_a, p9_a, n9_a, k9_a, A2_a, T2_a, W2_a, S2_a, t4_a, t5_a, t6_a, t7_a, B3_a, F3_a, H3_a, L3_a, y2_a, hz_a, hu_a, hy2_a⟩ := h1
  obtain ⟨k1, k2, k3⟩ := hL
  rcases h2 with ⟨hp, hz_b, hu_b⟩ | ⟨hp, h2⟩
  · exact ⟨_, _, _, _, _, _, _, hu_a, hu_b, hT, ⟨k1, hy2_a, k3⟩, hS, hW, hD, hR, hM, hK⟩
  · obtain ⟨A2_b, M2_b, W2_b, Wb2_b, L2_b, S2_b, hz_b, hu_b⟩ := h2
    exact ⟨_, _, _, _, _, _, _, hu_a, hu_b, hT, ⟨k1, hy2_a, k3⟩, hS, hW, hD, hR, hM, hK⟩
theorem pr_tune (hI : Inv v g ds ys w h) (h1 : QX11_tune a v g R ds ys y1 y2 z u) (h2 : QX12_tune b w h y1 y2 y u2) : PR a b u u2 := by
  obtain ⟨hT, hL, hS, hW, hD, hR, hM, hK⟩ := hI
  obtain ⟨z9_a, p9_a, n9_a, k9_a, A2_a, T2_a, W2_a, S2_a, t4_a, t5_a, t6_a, t7_a, B3_a, F3_a, H3_a, L3_a, hz_a, hu_a, hs_a⟩ := h1
  obtain ⟨z9_b, A2_b, M2_b, W2_b, hz_b, hu_b, hs_b⟩ := h2
  exact ⟨_, _, _, _, _, _, _, hu_a, hu_b, hT, hL, hS, hW, hD, hR, hM, hK⟩
theorem pr_place (hI : Inv v g ds ys w h) (h1 : QX11_place a v g R ds ys y1 y2 z u) (h2 : QX12_place b w h y1 y2 y u2) : PR a b u u2 := by
  obtain ⟨hT, hL, hS, hW, hD, hR, hM, hK⟩ := hI
  obtain ⟨p9_a, n9_a, k9_a, A2_a, T2_a, W2_a, S2_a, hz_a, hu_a⟩ := h1
  obtain ⟨A2_b, M2_b, W2_b, hz_b, hu_b⟩ := h2
  exact ⟨_, _, _, _, _, _, _, hu_a, hu_b, hT, hL, hS, hW, hD, hR, hM, hK⟩
theorem pr_overtakes (hI : Inv v g ds ys w h) (h1 : QX11_overtakes a v g R ds ys y1 y2 z u) (h2 : QX12_overtakes b w h y1 y2 y u2) : PR a b u u2 := by
  obtain ⟨hT, hL, hS, hW, hD, hR, hM, hK⟩ := hI
  obtain ⟨p9_a, n9_a, k9_a, A2_a, T2_a, W2_a, S2_a, hz_a, hu_a⟩ := h1
  obtain ⟨A2_b, M2_b, W2_b, hz_b, hu_b⟩ := h2
  exact ⟨_, _, _, _, _, _, _, hu_a, hu_b, hT, hL, hS, hW, hD, hR, hM, hK⟩
theorem pr_middle (hI : Inv v g ds ys w h) (h1 : QX11_middle a v g R ds ys  z u) (h2 : QX12_middle b w h  y u2) : PR a b u u2 := by
  obtain ⟨hT, hL, hS, hW, hD, hR, hM, hK⟩ := hI
  obtain ⟨p9_a, n9_a, k9_a, A2_a, T2_a, W2_a, S2_a, hz_a, hu_a⟩ := h1
  obtain ⟨A2_b, M2_b, W2_b, hz_b, hu_b⟩ := h2
  exact ⟨_, _, _, _, _, _, _, hu_a, hu_b, hT, hL, hS, hW, hD, hR, hM, hK⟩
theorem pr_ends (hI : Inv v g ds ys w h) (h1 : QX11_ends a v g R ds ys y1 z u) (h2 : QX12_ends b w h y1 y u2) : PR a b u u2 := by
  obtain ⟨hT, hL, hS, hW, hD, hR, hM, hK⟩ := hI
  obtain ⟨p9_a, n9_a, k9_a, A2_a, T2_a, W2_a, S2_a, hz_a, hu_a⟩ := h1
  obtain ⟨A2_b, M2_b, W2_b, hz_b, hu_b⟩ := h2
  exact ⟨_, _, _, _, _, _, _, hu_a, hu_b, hT, hL, hS, hW, hD, hR, hM, hK⟩
theorem pr_stray (hI : Inv v g ds ys w h) (h1 : QX11_stray a v g R ds ys y1 y2 z u) (h2 : QX12_stray b w h y1 y2 y u2) : PR a b u u2 := by
  obtain ⟨hT, hL, hS, hW, hD, hR, hM, hK⟩ := hI
  obtain ⟨p9_a, n9_a, k9_a, A2_a, T2_a, W2_a, S2_a, hz_a, hu_a⟩ := h1
  obtain ⟨A2_b, M2_b, W2_b, hz_b, hu_b⟩ := h2
  exact ⟨_, _, _, _, _, _, _, hu_a, hu_b, hT, hL, hS, hW, hD, hR, hM, hK⟩
theorem pr_count (hI : Inv v g ds ys w h) (h1 : QX11_count a v g R ds ys y1 z u) (h2 : QX12_count b w h y1 y u2) : PR a b u u2 := by
  obtain ⟨hT, hL, hS, hW, hD, hR, hM, hK⟩ := hI
  obtain ⟨z9_a, hz_a, hu_a⟩ := h1
  obtain ⟨z9_b, hz_b, hu_b⟩ := h2
  exact ⟨_, _, _, _, _, _, _, hu_a, hu_b, hT, hL, hS, hW, hD, hR, hM, hK⟩
theorem pr_player (hI : Inv v g ds ys w h) (h2 : QX12_player b w h y1 y2 y u2) : ∃ w2 : Nat → Int, u2 = RW b w2 h ∧ Inv v g ds ys w2 h := by
  obtain ⟨hT, hL, hS, hW, hD, hR, hM, hK⟩ := hI
  rcases h2 with ⟨hy, hu2, hp⟩ | ⟨z9, hy, hu2, hp, hp2⟩
  · exact ⟨_, hu2, hT, hL, hS, hW, hD, hR, hM, hK⟩
  · exact ⟨_, hu2, hT, hL, hS, hW, hD, hR, hM, hK⟩
end P2
end pt_99pairs2
/- 99.zans.lean.txt -/
section pt_99zans
/-! THE SAME ANSWERS OUT OF TABLES THAT AGREE ON THE PLAYERS -/
section ZA
variable {pl n ec mk : Int} {Fo Ho B Lt F2 H2 B2 L2 : Int → Int}
theorem bS_c (h : okS pl n ec Fo Ho B Lt) (e : teq pl Fo Ho B Lt F2 H2 B2 L2) (b p : Int) (hb : 0 ≤ b) (h0 : 0 ≤ p) (h1 : p < pl) : bF ec Fo Ho B b p = bF ec F2 H2 B2 b p :=
  bF_c h.2.2.2.2.1 (fun p a0 a1 => ⟨(e p a0 a1).1, (e p a0 a1).2.1, (e p a0 a1).2.2.1⟩) (fun p a0 a1 => (h.2.2.2.2.2.2 p a0 a1).1) b hb b hb (Int.le_refl b) p h0 h1
theorem rkI_c {g f : Int → Int} {p : Int} (hp : 0 ≤ pl) (e : ∀ y, 0 ≤ y → y < pl → g y = f y) (h0 : 0 ≤ p) (h1 : p < pl) : rkI g pl p = rkI f pl p := smI_c pl hp (fun o a0 a1 => by
  show (if g o < g p ∨ g p = g o ∧ o < p then (1 : Int) else 0) = if f o < f p ∨ f p = f o ∧ o < p then 1 else 0
  rw [e o a0 a1, e p h0 h1])
theorem apI_c {g f : Int → Int} {p : Int} (hp : 0 ≤ pl) (e : ∀ y, 0 ≤ y → y < pl → g y = f y) (h0 : 0 ≤ p) (h1 : p < pl) : apI g pl p = apI f pl p := smI_c pl hp (fun o a0 a1 => by
  show ((g o - g p).natAbs : Int) = ((f o - f p).natAbs : Int)
  rw [e o a0 a1, e p h0 h1])
theorem aTime_c (h : okZ pl n ec Fo Ho B Lt) (e : teq pl Fo Ho B Lt F2 H2 B2 L2) {p b w : Int} : aTime pl n ec mk Fo Ho B Lt p b w = aTime pl n ec mk F2 H2 B2 L2 p b w := by
  unfold aTime
  by_cases c : (0 ≤ p ∧ p < pl) ∧ (0 ≤ b ∧ b < n) ∧ (0 ≤ w ∧ w ≤ 2)
  · have hs := h.s (by omega)
    rw [if_pos c, if_pos c, tS_c hs e b p c.2.1.1 c.1.1 c.1.2, wS_c hs e b p c.2.1.1 c.1.1 c.1.2, bS_c hs e b p c.2.1.1 c.1.1 c.1.2]
  · rw [if_neg c, if_neg c]
theorem aSpread_c (h : okZ pl n ec Fo Ho B Lt) (e : teq pl Fo Ho B Lt F2 H2 B2 L2) {b : Int} : aSpread pl n ec mk Fo Ho B Lt b = aSpread pl n ec mk F2 H2 B2 L2 b := by
  unfold aSpread
  by_cases c : 1 ≤ pl ∧ 0 ≤ b ∧ b < n
  · rw [if_pos c, if_pos c, sS_c (h.s c.1) e b c.2.1]
  · rw [if_neg c, if_neg c]
theorem aWorst_c (h : okZ pl n ec Fo Ho B Lt) (e : teq pl Fo Ho B Lt F2 H2 B2 L2) {w : Int} : aWorst pl n ec mk Fo Ho B Lt w = aWorst pl n ec mk F2 H2 B2 L2 w := by
  unfold aWorst
  by_cases c : 1 ≤ pl ∧ (w = 0 ∨ w = 1)
  · have hn := h.2.2.1
    rw [if_pos c, if_pos c, WO_c (h.s c.1) e, amI_c n (by omega) (fun y h0 h1 => sS_c (h.s c.1) e y h0)]
  · rw [if_neg c, if_neg c]
theorem aParts_c (h : okZ pl n ec Fo Ho B Lt) (e : teq pl Fo Ho B Lt F2 H2 B2 L2) {lim : Int} : aParts pl n ec mk Fo Ho B Lt lim = aParts pl n ec mk F2 H2 B2 L2 lim := by
  unfold aParts
  by_cases c : 1 ≤ pl
  · have hn := h.2.2.1
    rw [if_pos c, if_pos c, fsI_c n (by omega) (fun y h0 h1 => sS_c (h.s c) e y h0)]
  · rw [if_neg c, if_neg c]
theorem aLast_c (h : okZ pl n ec Fo Ho B Lt) (e : teq pl Fo Ho B Lt F2 H2 B2 L2) {b : Int} : aLast pl n ec mk Fo Ho B Lt b = aLast pl n ec mk F2 H2 B2 L2 b := by
  unfold aLast
  by_cases c : 1 ≤ pl ∧ 0 ≤ b ∧ b < n
  · rw [if_pos c, if_pos c, amI_c pl (by omega) (fun y h0 h1 => tS_c (h.s c.1) e b y c.2.1 h0 h1)]
  · rw [if_neg c, if_neg c]
theorem aPlace_c (h : okZ pl n ec Fo Ho B Lt) (e : teq pl Fo Ho B Lt F2 H2 B2 L2) {b i : Int} : aPlace pl n ec mk Fo Ho B Lt b i = aPlace pl n ec mk F2 H2 B2 L2 b i := by
  unfold aPlace
  by_cases c : 1 ≤ pl ∧ 0 ≤ b ∧ b < n
  · rw [if_pos c, if_pos c]
    refine fiI_c pl (by omega) (fun p h0 h1 => ?_)
    show decide (rkI (tS pl ec mk Fo Ho B Lt b) pl p = i) = decide (rkI (tS pl ec mk F2 H2 B2 L2 b) pl p = i)
    rw [rkI_c (by omega) (fun y h0 h1 => tS_c (h.s c.1) e b y c.2.1 h0 h1) h0 h1]
  · rw [if_neg c, if_neg c]
theorem aOver_c (h : okZ pl n ec Fo Ho B Lt) (e : teq pl Fo Ho B Lt F2 H2 B2 L2) {i j : Int} : aOver pl n ec mk Fo Ho B Lt i j = aOver pl n ec mk F2 H2 B2 L2 i j := by
  unfold aOver
  by_cases c : (0 ≤ i ∧ i < pl) ∧ (0 ≤ j ∧ j < pl) ∧ i ≠ j
  · have hs := h.s (by omega)
    have hn := h.2.2.1
    rw [if_pos c, if_pos c]
    unfold ovI
    refine smI_c n (by omega) (fun b h0 h1 => ?_)
    have E : ∀ b, 0 ≤ b → ∀ p, 0 ≤ p → p < pl → tS pl ec mk Fo Ho B Lt b p = tS pl ec mk F2 H2 B2 L2 b p := fun b hb p p0 p1 => tS_c hs e b p hb p0 p1
    by_cases hb : 1 ≤ b
    · show (if 1 ≤ b ∧ cmI (tS pl ec mk Fo Ho B Lt b i) (tS pl ec mk Fo Ho B Lt b j) ≠ 0 ∧ cmI (tS pl ec mk Fo Ho B Lt b i) (tS pl ec mk Fo Ho B Lt b j) ≠ cmI (tS pl ec mk Fo Ho B Lt (b - 1) i) (tS pl ec mk Fo Ho B Lt (b - 1) j) then (1 : Int) else 0) = _
      rw [E b h0 i c.1.1 c.1.2, E b h0 j c.2.1.1 c.2.1.2, E (b - 1) (by omega) i c.1.1 c.1.2, E (b - 1) (by omega) j c.2.1.1 c.2.1.2]
    · show (if 1 ≤ b ∧ _ then (1 : Int) else 0) = if 1 ≤ b ∧ _ then (1 : Int) else 0
      rw [if_neg (fun q => hb q.1), if_neg (fun q => hb q.1)]
  · rw [if_neg c, if_neg c]
theorem aMiddle_c (h : okZ pl n ec Fo Ho B Lt) (e : teq pl Fo Ho B Lt F2 H2 B2 L2) : aMiddle pl n ec mk Fo Ho B Lt = aMiddle pl n ec mk F2 H2 B2 L2 := by
  unfold aMiddle
  by_cases c : 1 ≤ pl
  · have hn := h.2.2.1
    rw [if_pos c, if_pos c]
    refine amI_c pl (by omega) (fun p h0 h1 => ?_)
    show -apI (tS pl ec mk Fo Ho B Lt (n - 1)) pl p = -apI (tS pl ec mk F2 H2 B2 L2 (n - 1)) pl p
    rw [apI_c (by omega) (fun y h0 h1 => tS_c (h.s c) e (n - 1) y (by omega) h0 h1) h0 h1]
  · rw [if_neg c, if_neg c]
theorem aEnds_c (h : okZ pl n ec Fo Ho B Lt) (e : teq pl Fo Ho B Lt F2 H2 B2 L2) {w : Int} : aEnds pl n ec mk Fo Ho B Lt w = aEnds pl n ec mk F2 H2 B2 L2 w := by
  unfold aEnds
  by_cases c : 1 ≤ pl ∧ (w = 0 ∨ w = 1)
  · have hn := h.2.2.1
    rw [if_pos c, if_pos c, mxI_c pl (by omega) (fun y h0 h1 => tS_c (h.s c.1) e (n - 1) y (by omega) h0 h1), sS_c (h.s c.1) e (n - 1) (by omega)]
  · rw [if_neg c, if_neg c]
theorem aStray_c (h : okZ pl n ec Fo Ho B Lt) (e : teq pl Fo Ho B Lt F2 H2 B2 L2) {p q : Int} : aStray pl n ec Fo Ho B p q = aStray pl n ec F2 H2 B2 p q := by
  unfold aStray
  by_cases c : (0 ≤ p ∧ p < pl) ∧ 1 ≤ q ∧ q ≤ 99
  · have hs := h.s (by omega)
    have hn := h.2.2.1
    rw [if_pos c, if_pos c]
    unfold srI
    refine fiI_c n (by omega) (fun b h0 h1 => ?_)
    by_cases hb : 1 ≤ b
    · show decide (1 ≤ b ∧ q ≤ ((bF ec Fo Ho B b p - bF ec Fo Ho B (b - 1) p).natAbs : Int)) = decide (1 ≤ b ∧ q ≤ ((bF ec F2 H2 B2 b p - bF ec F2 H2 B2 (b - 1) p).natAbs : Int))
      rw [bS_c hs e b p h0 c.1.1 c.1.2, bS_c hs e (b - 1) p (by omega) c.1.1 c.1.2]
    · exact decide_eq_decide.mpr ⟨fun q => absurd q.1 hb, fun q => absurd q.1 hb⟩
  · rw [if_neg c, if_neg c]
theorem aDeaf_c (h : okZ pl n ec Fo Ho B Lt) (e : teq pl Fo Ho B Lt F2 H2 B2 L2) {p : Int} : aDeaf pl n ec mk Fo Ho B Lt p = aDeaf pl n ec mk F2 H2 B2 L2 p := by
  unfold aDeaf
  by_cases c : 0 ≤ p ∧ p < pl
  · rw [if_pos c, if_pos c, WO_c ((h.s (by omega)).fo (p := p) (v := -1) ⟨by omega, by omega⟩) (te_F e)]
  · rw [if_neg c, if_neg c]
theorem ldN_c (hs : okS pl n ec Fo Ho B Lt) (e : teq pl Fo Ho B Lt F2 H2 B2 L2) {p : Int} : ∀ f : Nat, (f : Int) ≤ pl → ldN pl n ec mk Fo Ho B Lt p f = ldN pl n ec mk F2 H2 B2 L2 p f := by
  have h1 := hs.1
  intro f
  induction f with
  | zero => intro _; unfold ldN; rw [WO_c (hs.fo (p := p) (v := -1) ⟨by omega, by omega⟩) (te_F e)]
  | succ f ih =>
    intro hf
    unfold ldN
    rw [ih (by omega), WO_c (hs.fo (p := p) (v := (f : Int)) ⟨by omega, by omega⟩) (te_F e)]
theorem aLeader_c (h : okZ pl n ec Fo Ho B Lt) (e : teq pl Fo Ho B Lt F2 H2 B2 L2) {p w : Int} : aLeader pl n ec mk Fo Ho B Lt p w = aLeader pl n ec mk F2 H2 B2 L2 p w := by
  unfold aLeader
  by_cases c : (0 ≤ p ∧ p < pl) ∧ (w = 0 ∨ w = 1)
  · rw [if_pos c, if_pos c]
    unfold ldI
    rw [ldN_c (h.s (by omega)) e pl.toNat (by omega)]
  · rw [if_neg c, if_neg c]
theorem ehN_c (hs : okS pl n ec Fo Ho B Lt) (e : teq pl Fo Ho B Lt F2 H2 B2 L2) : ∀ k : Nat, k ≤ 3 → ehN pl n mk Fo Ho B Lt k = ehN pl n mk F2 H2 B2 L2 k := by
  intro k
  induction k with
  | zero => intro _; unfold ehN; rw [WO_c (hs.ec (e2 := 0) ⟨by omega, by omega⟩) e]
  | succ k ih =>
    intro hk
    unfold ehN
    rw [ih (by omega), WO_c (hs.ec (e2 := (k : Int) + 1) ⟨by omega, by omega⟩) e]
theorem aEchoes_c (h : okZ pl n ec Fo Ho B Lt) (e : teq pl Fo Ho B Lt F2 H2 B2 L2) {w : Int} : aEchoes pl n mk Fo Ho B Lt w = aEchoes pl n mk F2 H2 B2 L2 w := by
  unfold aEchoes
  by_cases c : 1 ≤ pl ∧ (w = 0 ∨ w = 1)
  · rw [if_pos c, if_pos c, ehN_c (h.s c.1) e 3 (by omega)]
  · rw [if_neg c, if_neg c]
theorem rTune_c (h : okZ pl n ec Fo Ho B Lt) (e : teq pl Fo Ho B Lt F2 H2 B2 L2) {lim p w z : Int} (hr : rTune pl n ec mk Fo Ho B Lt lim p w z) : rTune pl n ec mk F2 H2 B2 L2 lim p w z := by
  rcases hr with ⟨a, b⟩ | ⟨hp, hw, hr⟩
  · exact Or.inl ⟨a, b⟩
  · have hs := h.s (by omega)
    have E : ∀ k, 0 ≤ k → k ≤ 10 → WO pl n ec mk Fo (uZ Ho p k) B Lt = WO pl n ec mk F2 (uZ H2 p k) B2 L2 := fun k a b => WO_c (hs.ho ⟨a, b⟩) (te_H e)
    have eH := (e p hp.1 hp.2).2.1
    refine Or.inr ⟨hp, hw, ?_⟩
    rcases hr with ⟨a, b⟩ | ⟨h9, a1, a2, a3, a4, a5⟩
    · exact Or.inl ⟨fun k k0 k1 => by rw [← E k k0 k1]; exact a k k0 k1, b⟩
    · refine Or.inr ⟨h9, a1, a2, by rw [← E h9 a1 a2]; exact a3, fun k k0 k1 k2 => ?_, ?_⟩
      · rw [← eH]
        exact a4 k k0 k1 (by rw [E k k0 k1]; exact k2)
      · rw [a5, E h9 a1 a2]
theorem alL_e (hs : okS pl n ec Fo Ho B Lt) (e : teq pl Fo Ho B Lt F2 H2 B2 L2) {p v : Int} (hp : 0 ≤ p ∧ p < pl) (hv : 0 ≤ v ∧ v ≤ 50) : alL pl n ec mk Fo Ho B Lt p v ↔ alL pl n ec mk F2 H2 B2 L2 p v := by
  have hn := hs.2.2.1
  have E : ∀ o, 0 ≤ o → o < pl → tS pl ec mk Fo Ho B (uZ Lt p v) (n - 1) o = tS pl ec mk F2 H2 B2 (uZ L2 p v) (n - 1) o := fun o o0 o1 => tS_c (hs.la (p := p) hv) (te_L e) (n - 1) o (by omega) o0 o1
  unfold alL
  constructor
  · intro a o o0 o1 o2
    rw [← E o o0 o1, ← E p hp.1 hp.2]
    exact a o o0 o1 o2
  · intro a o o0 o1 o2
    rw [E o o0 o1, E p hp.1 hp.2]
    exact a o o0 o1 o2
theorem rPaid_c (h : okZ pl n ec Fo Ho B Lt) (e : teq pl Fo Ho B Lt F2 H2 B2 L2) {p z : Int} (hr : rPaid pl n ec mk Fo Ho B Lt p z) : rPaid pl n ec mk F2 H2 B2 L2 p z := by
  rcases hr with ⟨a, b⟩ | ⟨hp, hr⟩
  · exact Or.inl ⟨a, b⟩
  · have hs := h.s (by omega)
    refine Or.inr ⟨hp, ?_⟩
    rcases hr with ⟨a1, a2⟩ | ⟨a1, a2, a3, a4⟩
    · exact Or.inl ⟨a1, fun v v0 v1 q => a2 v v0 v1 ((alL_e hs e hp ⟨v0, v1⟩).mpr q)⟩
    · exact Or.inr ⟨a1, a2, (alL_e hs e hp ⟨a1, a2⟩).mp a3, fun v v0 v1 q => a4 v v0 v1 ((alL_e hs e hp ⟨v0, by omega⟩).mpr q)⟩
theorem lkR_c (hs : okS pl n ec Fo Ho B Lt) (e : teq pl Fo Ho B Lt F2 H2 B2 L2) (i j : Int) : lkR pl ec Fo Ho B i j ↔ lkR pl ec F2 H2 B2 i j := by
  unfold lkR
  constructor
  · intro a k k0 k1 p p0 p1
    rw [← bS_c hs e (max 0 (i - k)) p (by omega) p0 p1, ← bS_c hs e (max 0 (j - k)) p (by omega) p0 p1]
    exact a k k0 k1 p p0 p1
  · intro a k k0 k1 p p0 p1
    rw [bS_c hs e (max 0 (i - k)) p (by omega) p0 p1, bS_c hs e (max 0 (j - k)) p (by omega) p0 p1]
    exact a k k0 k1 p p0 p1
theorem rSettle_c (h : okZ pl n ec Fo Ho B Lt) (e : teq pl Fo Ho B Lt F2 H2 B2 L2) {w z : Int} (hr : rSettle pl ec Fo Ho B w z) : rSettle pl ec F2 H2 B2 w z := by
  rcases hr with ⟨a, b⟩ | ⟨hp, hw, hr⟩
  · exact Or.inl ⟨a, b⟩
  · have E := lkR_c (h.s hp) e
    refine Or.inr ⟨hp, hw, ?_⟩
    rcases hr with ⟨a1, a2⟩ | ⟨j, i, a1, a2, a3, a4, a5, a6, a7, a8⟩
    · exact Or.inl ⟨fun j j0 j1 i i0 i1 q => a1 j j0 j1 i i0 i1 ((E i j).mpr q), a2⟩
    · exact Or.inr ⟨j, i, a1, a2, a3, a4, (E i j).mp a5, fun j2 q1 q2 i2 q3 q4 q => a6 j2 q1 q2 i2 q3 q4 ((E i2 j2).mpr q), fun i2 q1 q2 q => a7 i2 q1 q2 ((E i2 j).mpr q), a8⟩
theorem agB_c (hs : okS pl n ec Fo Ho B Lt) (e : teq pl Fo Ho B Lt F2 H2 B2 L2) {rl p f : Int} {P1 B1 T1 P2 b2 T2 : Int → Int} (hr : ∀ k, 0 ≤ k → k < rl → ((0 ≤ P1 k ∧ P1 k < pl) ∧ 0 ≤ B1 k) ∧ P2 k = P1 k ∧ b2 k = B1 k ∧ T2 k = T1 k) (hf : -1 ≤ f ∧ f < pl) : agB pl n ec mk Fo Ho B Lt rl P1 B1 T1 p f = agB pl n ec mk F2 H2 B2 L2 rl P2 b2 T2 p f := by
  unfold agB
  refine decide_eq_decide.mpr ?_
  unfold agR
  constructor
  · intro a k k0 k1
    obtain ⟨⟨c1, c2⟩, c3, c4, c5⟩ := hr k k0 k1
    have q := a k k0 k1
    rw [wS_c (hs.fo (p := p) hf) (te_F e) (B1 k) (P1 k) c2 c1.1 c1.2] at q
    rw [c3, c4, c5]
    exact q
  · intro a k k0 k1
    obtain ⟨⟨c1, c2⟩, c3, c4, c5⟩ := hr k k0 k1
    have q := a k k0 k1
    rw [c3, c4, c5] at q
    rw [wS_c (hs.fo (p := p) hf) (te_F e) (B1 k) (P1 k) c2 c1.1 c1.2]
    exact q
theorem fiB_c (hs : okS pl n ec Fo Ho B Lt) (e : teq pl Fo Ho B Lt F2 H2 B2 L2) {rl p : Int} {P1 B1 T1 P2 b2 T2 : Int → Int} (hr : ∀ k, 0 ≤ k → k < rl → ((0 ≤ P1 k ∧ P1 k < pl) ∧ 0 ≤ B1 k) ∧ P2 k = P1 k ∧ b2 k = B1 k ∧ T2 k = T1 k) : ∀ f : Nat, (f : Int) ≤ pl → fiB pl n ec mk Fo Ho B Lt rl P1 B1 T1 p f = fiB pl n ec mk F2 H2 B2 L2 rl P2 b2 T2 p f := by
  have h1 := hs.1
  intro f
  induction f with
  | zero => intro _; unfold fiB; rw [agB_c hs e hr ⟨by omega, by omega⟩]
  | succ f ih =>
    intro hf
    unfold fiB
    rw [ih (by omega), agB_c hs e hr (f := (f : Int)) ⟨by omega, by omega⟩]
theorem aFits_c (h : okZ pl n ec Fo Ho B Lt) (e : teq pl Fo Ho B Lt F2 H2 B2 L2) {rl p : Int} {P1 B1 T1 P2 b2 T2 : Int → Int} (hr : ∀ k, 0 ≤ k → k < rl → ((0 ≤ P1 k ∧ P1 k < pl) ∧ 0 ≤ B1 k) ∧ P2 k = P1 k ∧ b2 k = B1 k ∧ T2 k = T1 k) : aFits pl n ec mk Fo Ho B Lt rl P1 B1 T1 p = aFits pl n ec mk F2 H2 B2 L2 rl P2 b2 T2 p := by
  unfold aFits
  by_cases c : 0 ≤ p ∧ p < pl
  · rw [if_pos c, if_pos c, fiB_c (h.s (by omega)) e hr pl.toNat (by omega)]
  · rw [if_neg c, if_neg c]
end ZA
section ZB
variable {a b : Nat → Nat} {v : Nat → Int} {g : Nat → Int → Int} {R : Int → Int → Int} {ds : List LwS} {ys : Nat → LwY} {w : Nat → Int} {h : Nat → Int → Int} {z y y1 y2 y3 y4 y5 : Int} {u u2 : EW}
theorem Inv.te (hI : Inv v g ds ys w h) : teq (v 13) (g 39) (g 40) (g 38) (g 41) (c5 (h 20) 3) (c5 (h 20) 4) (h 23) (h 24) := fun p a0 a1 => by
  obtain ⟨-, -, ⟨k1, k2, e1, e2, e3, e4, e5, k3⟩, -⟩ := hI
  obtain ⟨x1, x2, x3, x4⟩ := k3 p a0 a1
  exact ⟨x1.symm, x2.symm, x3.symm, x4.symm⟩
theorem Inv.cz (hI : Inv v g ds ys w h) : okZ (v 13) (v 21) (v 22) (g 39) (g 40) (g 38) (g 41) := hI.2.2.1.1
theorem Inv.es (hI : Inv v g ds ys w h) : w 21 = v 13 ∧ w 28 = v 21 ∧ w 29 = v 22 ∧ w 26 = v 23 ∧ w 30 = v 0 := by
  obtain ⟨-, -, ⟨k1, k2, e1, e2, e3, e4, e5, k3⟩, -⟩ := hI
  exact ⟨e1, e2, e3, e4, e5⟩
theorem ans_time (hI : Inv v g ds ys w h) (h1 : QX11_time a v g R ds ys y1 y2 y3 z u) (h2 : QX12_time b w h y1 y2 y3 y u2) : z = y := by
  obtain ⟨e1, e2, e3, e4, e5⟩ := hI.es
  obtain ⟨_, _, _, _, _, _, _, hz, -⟩ := h1
  obtain ⟨_, _, _, hy, -⟩ := h2
  rw [hz, hy, e1, e2, e3, e4]
  exact aTime_c hI.cz hI.te
theorem ans_spread (hI : Inv v g ds ys w h) (h1 : QX11_spread a v g R ds ys y1 z u) (h2 : QX12_spread b w h y1 y u2) : z = y := by
  obtain ⟨e1, e2, e3, e4, e5⟩ := hI.es
  obtain ⟨_, _, _, _, _, _, _, hz, -⟩ := h1
  obtain ⟨_, _, _, hy, -⟩ := h2
  rw [hz, hy, e1, e2, e3, e4]
  exact aSpread_c hI.cz hI.te
theorem ans_worst (hI : Inv v g ds ys w h) (h1 : QX11_worst a v g R ds ys y1 z u) (h2 : QX12_worst b w h y1 y u2) : z = y := by
  obtain ⟨e1, e2, e3, e4, e5⟩ := hI.es
  obtain ⟨_, _, _, _, _, _, _, hz, -⟩ := h1
  obtain ⟨_, _, _, hy, -⟩ := h2
  rw [hz, hy, e1, e2, e3, e4]
  exact aWorst_c hI.cz hI.te
theorem ans_parts (hI : Inv v g ds ys w h) (h1 : QX11_parts a v g R ds ys z u) (h2 : QX12_parts b w h y u2) : z = y := by
  obtain ⟨e1, e2, e3, e4, e5⟩ := hI.es
  obtain ⟨_, _, _, _, _, _, _, hz, -⟩ := h1
  obtain ⟨_, _, _, hy, -⟩ := h2
  rw [hz, hy, e1, e2, e3, e4, e5]
  exact aParts_c hI.cz hI.te
theorem ans_last (hI : Inv v g ds ys w h) (h1 : QX11_last a v g R ds ys y1 z u) (h2 : QX12_last b w h y1 y u2) : z = y := by
  obtain ⟨e1, e2, e3, e4, e5⟩ := hI.es
  obtain ⟨_, _, _, _, _, _, _, hz, -⟩ := h1
  obtain ⟨_, _, _, hy, -⟩ := h2
  rw [hz, hy, e1, e2, e3, e4]
  exact aLast_c hI.cz hI.te
theorem ans_place (hI : Inv v g ds ys w h) (h1 : QX11_place a v g R ds ys y1 y2 z u) (h2 : QX12_place b w h y1 y2 y u2) : z = y := by
  obtain ⟨e1, e2, e3, e4, e5⟩ := hI.es
  obtain ⟨_, _, _, _, _, _, _, hz, -⟩ := h1
  obtain ⟨_, _, _, hy, -⟩ := h2
  rw [hz, hy, e1, e2, e3, e4]
  exact aPlace_c hI.cz hI.te
theorem ans_overtakes (hI : Inv v g ds ys w h) (h1 : QX11_overtakes a v g R ds ys y1 y2 z u) (h2 : QX12_overtakes b w h y1 y2 y u2) : z = y := by
  obtain ⟨e1, e2, e3, e4, e5⟩ := hI.es
  obtain ⟨_, _, _, _, _, _, _, hz, -⟩ := h1
  obtain ⟨_, _, _, hy, -⟩ := h2
  rw [hz, hy, e1, e2, e3, e4]
  exact aOver_c hI.cz hI.te
theorem ans_middle (hI : Inv v g ds ys w h) (h1 : QX11_middle a v g R ds ys z u) (h2 : QX12_middle b w h y u2) : z = y := by
  obtain ⟨e1, e2, e3, e4, e5⟩ := hI.es
  obtain ⟨_, _, _, _, _, _, _, hz, -⟩ := h1
  obtain ⟨_, _, _, hy, -⟩ := h2
  rw [hz, hy, e1, e2, e3, e4]
  exact aMiddle_c hI.cz hI.te
theorem ans_ends (hI : Inv v g ds ys w h) (h1 : QX11_ends a v g R ds ys y1 z u) (h2 : QX12_ends b w h y1 y u2) : z = y := by
  obtain ⟨e1, e2, e3, e4, e5⟩ := hI.es
  obtain ⟨_, _, _, _, _, _, _, hz, -⟩ := h1
  obtain ⟨_, _, _, hy, -⟩ := h2
  rw [hz, hy, e1, e2, e3, e4]
  exact aEnds_c hI.cz hI.te
theorem ans_stray (hI : Inv v g ds ys w h) (h1 : QX11_stray a v g R ds ys y1 y2 z u) (h2 : QX12_stray b w h y1 y2 y u2) : z = y := by
  obtain ⟨e1, e2, e3, e4, e5⟩ := hI.es
  obtain ⟨_, _, _, _, _, _, _, hz, -⟩ := h1
  obtain ⟨_, _, _, hy, -⟩ := h2
  rw [hz, hy, e1, e2, e3]
  exact aStray_c hI.cz hI.te
theorem ans_deaf (hI : Inv v g ds ys w h) (h1 : QX11_deaf a v g R ds ys y1 z u) (h2 : QX12_deaf b w h y1 y u2) : z = y := by
  obtain ⟨e1, e2, e3, e4, e5⟩ := hI.es
  obtain ⟨_, _, _, _, _, _, _, _, _, _, _, _, _, _, _, hz, -⟩ := h1
  obtain ⟨_, _, _, hy, -⟩ := h2
  rw [hz, hy, e1, e2, e3, e4]
  exact aDeaf_c hI.cz hI.te
theorem ans_leader (hI : Inv v g ds ys w h) (h1 : QX11_leader a v g R ds ys y1 y2 z u) (h2 : QX12_leader b w h y1 y2 y u2) : z = y := by
  obtain ⟨e1, e2, e3, e4, e5⟩ := hI.es
  obtain ⟨_, _, _, _, _, _, _, _, _, _, _, _, _, _, _, hz, -⟩ := h1
  obtain ⟨_, _, _, hy, -⟩ := h2
  rw [hz, hy, e1, e2, e3, e4]
  exact aLeader_c hI.cz hI.te
theorem ans_echoes (hI : Inv v g ds ys w h) (h1 : QX11_echoes a v g R ds ys y1 z u) (h2 : QX12_echoes b w h y1 y u2) : z = y := by
  obtain ⟨e1, e2, e3, e4, e5⟩ := hI.es
  obtain ⟨_, _, _, _, _, _, _, _, _, _, _, _, _, _, _, hz, -⟩ := h1
  obtain ⟨_, _, _, hy, -⟩ := h2
  rw [hz, hy, e1, e2, e4]
  exact aEchoes_c hI.cz hI.te
theorem ans_fits (hI : Inv v g ds ys w h) (h1 : QX11_fits a v g R ds ys y1 z u) (h2 : QX12_fits b w h y1 y u2) : z = y := by
  obtain ⟨e1, e2, e3, e4, e5⟩ := hI.es
  obtain ⟨_, _, _, _, _, _, _, _, _, _, _, _, _, _, _, hz, -⟩ := h1
  obtain ⟨_, _, _, hy, -⟩ := h2
  obtain ⟨k1, k2, k3⟩ := hI.2.2.2.2.2.1
  rw [hz, hy, e1, e2, e3, e4, k2]
  exact aFits_c hI.cz hI.te (fun k a0 a1 => by
    obtain ⟨x1, x2, x3, x4⟩ := k3 k a0 a1
    exact ⟨⟨x1.1, x1.2.1.1⟩, x2, x3, x4⟩)
theorem ans_paid (hI : Inv v g ds ys w h) (h1 : QX11_paid a v g R ds ys y1 z u) (h2 : QX12_paid b w h y1 y u2) : z = y := by
  obtain ⟨e1, e2, e3, e4, e5⟩ := hI.es
  obtain ⟨z9, _, _, _, _, _, _, _, _, _, _, _, _, _, _, _, hz, -, hr⟩ := h1
  obtain ⟨z8, _, _, _, hy, -, hr2⟩ := h2
  rw [e1, e2, e3, e4] at hr2
  rw [hz, hy]
  exact rPaid_u (rPaid_c hI.cz hI.te hr) hr2
theorem ans_tune (hI : Inv v g ds ys w h) (h1 : QX11_tune a v g R ds ys y1 y2 z u) (h2 : QX12_tune b w h y1 y2 y u2) : z = y := by
  obtain ⟨e1, e2, e3, e4, e5⟩ := hI.es
  obtain ⟨z9, _, _, _, _, _, _, _, _, _, _, _, _, _, _, _, hz, -, hr⟩ := h1
  obtain ⟨z8, _, _, _, hy, -, hr2⟩ := h2
  rw [e1, e2, e3, e4, e5] at hr2
  rw [hz, hy]
  exact rTune_u (rTune_c hI.cz hI.te hr) hr2
theorem ans_settle (hI : Inv v g ds ys w h) (h1 : QX11_settle a v g R ds ys y1 z u) (h2 : QX12_settle b w h y1 y u2) : z = y := by
  obtain ⟨e1, e2, e3, e4, e5⟩ := hI.es
  obtain ⟨z9, _, _, _, _, _, _, _, hz, -, hr⟩ := h1
  obtain ⟨z8, _, hy, -, hr2⟩ := h2
  rw [e1, e3] at hr2
  rw [hz, hy]
  exact rSettle_u (rSettle_c hI.cz hI.te hr) hr2
end ZB
end pt_99zans
