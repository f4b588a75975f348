/-! ===== the class as its constructor leaves it ===== -/
def mi_r1 : Option mi_Z := mi_run none 9000 81 mi_M0 0 [(0, .ref 0)] [] [mi_fresh 10] 0 0
def mi_h1 : mi_H := mi_hp mi_r1
def fvx (h : mi_H) (k j : Nat) : Option Value := match h[k]? with
  | some (.inr o) => o.2[j]?
  | _ => none
def vI : Option Value → Int
  | some (.int v) => v.toInt
  | some (.ref n) => (n : Int)
  | _ => 0
def vJ : Option Value → Int64
  | some (.long v) => v
  | _ => 0
def aiv (h : mi_H) (k i : Nat) : Int := match mi_ai h k with
  | some q => (q.2.2 i).toInt
  | none => 0
def alv (h : mi_H) (k i : Nat) : Int64 := match mi_al h k with
  | some q => q.2 i
  | none => 0
def sg1 (h : mi_H) : mi_Sg := (fun k j => vI (fvx h k j), fun k i => aiv h k i.toNat, fun k j => vJ (fvx h k j), fun k i => alv h k i.toNat)
def isI : Option Value → Bool
  | some (.int _) => true
  | _ => false
def isR : Option Value → Bool
  | some (.ref _) => true
  | _ => false
def isR2 (n : Nat) : Option Value → Bool
  | some (.ref m) => m == n
  | _ => false
def isJ : Option Value → Bool
  | some (.long _) => true
  | _ => false
def isA (t n : Nat) : Option (Nat × Nat × (Nat → Int32)) → Bool
  | some q => q.1 == t && q.2.1 == n
  | none => false
def isL (n : Nat) : Option (Nat × (Nat → Int64)) → Bool
  | some q => q.1 == n
  | none => false
def in_tab (h : mi_H) : Bool := mi_tI.all (fun q => isI (mi_fv h q.1 q.2.1 q.2.2)) && (mi_tV.all (fun q => isR (mi_fv h q.1 q.2.1 q.2.2)) && (mi_tJ.all (fun q => isJ (mi_fv h q.1 q.2.1 q.2.2)) && (mi_tR.all (fun q => isR2 q.2.2.2 (mi_fv h q.1 q.2.1 q.2.2.1)) && (mi_tA.all (fun q => isA q.2.1 q.2.2 (mi_ai h q.1)) && mi_tL.all (fun q => isL q.2 (mi_al h q.1))))))
def in_val (h : mi_H) : Bool := [(9, 7, (512 : Int)), (9, 8, 13), (9, 9, 13), (9, 11, 0), (17, 11, 13), (0, 10, 0)].all (fun (q : Nat × Nat × Int) => decide (vI (fvx h q.1 q.2.1) = q.2.2)) &&
  ((List.range 13).all (fun i => decide (aiv h 12 i = (i : Int))) && ((List.range 3).all (fun i => decide (aiv h 10 i = (i : Int))) && ((List.range 39).all (fun i => decide (0 ≤ aiv h 11 i) && decide (aiv h 11 i < 13)) && ((List.range 9).all (fun i => decide (aiv h 11 i = 0)) && ((List.range 13).all (fun i => decide (aiv h 13 i = 0)) &&
  ((List.range 3).all (fun i => decide (alv h 18 i = [6909556, 1651470188, 1818850164].getD i 0)) && ((List.range 3).all (fun i => decide (aiv h 19 i = [0, 0, 1].getD i 0)) && (List.range 13).all (fun i => decide (alv h 4 i = kwl.getD i 0)))))))))
def in_ok (r : Option mi_Z) : Bool := match r with
  | some (.inl none, h, c, s) => decide (h.length = 55) && (decide (c ≤ 60) && (decide (s ≤ 25000) && (in_tab h && in_val h)))
  | _ => false
set_option maxRecDepth 1000000 in
theorem in_ok1 : in_ok mi_r1 = true := by decide +kernel
