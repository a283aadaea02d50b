/-- a binary tree of numbers, of which only the shape is used -/
abbrev bt_T : Type := Std.DTreeMap.Internal.Impl Nat (fun _ => Nat)
abbrev bt_nd (v : Nat) (l r : bt_T) : bt_T := Std.DTreeMap.Internal.Impl.inner 0 0 v l r
abbrev bt_lf : bt_T := Std.DTreeMap.Internal.Impl.leaf
noncomputable def bt_get (t : bt_T) : Nat → Nat := Std.DTreeMap.Internal.Impl.rec (motive := fun _ => Nat → Nat) (fun _ _ v _ _ ihl ihr => fun i => cond (Nat.beq i 0) v (cond (Nat.beq (Nat.mod i 2) 1) (ihl (Nat.div i 2)) (ihr (Nat.sub (Nat.div i 2) 1)))) (fun _ => 0) t
noncomputable def bt_set : Nat → bt_T → Nat → Nat → bt_T := fun fuel => Nat.rec (motive := fun _ => bt_T → Nat → Nat → bt_T) (fun t _ _ => t) (fun _ ih t i x => Std.DTreeMap.Internal.Impl.rec (motive := fun _ => bt_T) (fun _ _ v l r _ _ => cond (Nat.beq i 0) (bt_nd x l r) (cond (Nat.beq (Nat.mod i 2) 1) (bt_nd v (ih l (Nat.div i 2) x) r) (bt_nd v l (ih r (Nat.sub (Nat.div i 2) 1) x)))) (cond (Nat.beq i 0) (bt_nd x bt_lf bt_lf) (cond (Nat.beq (Nat.mod i 2) 1) (bt_nd 0 (ih bt_lf (Nat.div i 2) x) bt_lf) (bt_nd 0 bt_lf (ih bt_lf (Nat.sub (Nat.div i 2) 1) x)))) t) fuel
noncomputable def bl_get (l : List Nat) : Nat → Nat := List.rec (motive := fun _ => Nat → Nat) (fun _ => 0) (fun x _ ih => fun i => Nat.rec (motive := fun _ => Nat) x (fun j _ => ih j) i) l
noncomputable def bl_set (l : List Nat) : Nat → Nat → List Nat := List.rec (motive := fun _ => Nat → Nat → List Nat) (fun _ _ => []) (fun x xs ih => fun i v => Nat.rec (motive := fun _ => List Nat) (v :: xs) (fun j _ => x :: ih j v) i) l
/-- code: op + 16 * operand -/
def bc_code : List Nat := [1 + 16 * 1, 1 + 16 * 0, 2, 3, 4 + 16 * 1, 1 + 16 * 2, 1 + 16 * 0, 5 + 16 * 7, 6, 7 + 16 * 0, 1 + 16 * 0, 8 + 16 * 50000, 9 + 16 * 0, 15]
noncomputable def bc_tree : bt_T := Nat.rec (motive := fun _ => bt_T) bt_lf (fun k t => bt_set 8 t k (bl_get bc_code k)) 14
/-- a step's work: k gets the new state -/
noncomputable def bs_step (code : bt_T) (pc : Nat) (ls st : List Nat) (h : bt_T) (k : Nat → List Nat → List Nat → bt_T → Nat) : Nat :=
  (fun ins => (fun op arg =>
    cond (Nat.beq op 1) (k (Nat.add pc 1) ls (bl_get ls arg :: st) h)
    (cond (Nat.beq op 2) (List.rec (motive := fun _ => Nat) 0 (fun i st' _ => k (Nat.add pc 1) ls (bt_get h (Nat.mod i 4096) :: st') h) st)
    (cond (Nat.beq op 3) (List.rec (motive := fun _ => Nat) 0 (fun a st' _ => List.rec (motive := fun _ => Nat) 0 (fun b st2 _ => k (Nat.add pc 1) ls (Nat.mod (Nat.add a b) 4294967296 :: st2) h) st') st)
    (cond (Nat.beq op 4) (List.rec (motive := fun _ => Nat) 0 (fun a st' _ => k (Nat.add pc 1) (bl_set ls arg a) st' h) st)
    (cond (Nat.beq op 5) (k (Nat.add pc 1) ls (arg :: st) h)
    (cond (Nat.beq op 6) (List.rec (motive := fun _ => Nat) 0 (fun v st' _ => List.rec (motive := fun _ => Nat) 0 (fun i st2 _ => k (Nat.add pc 1) ls (v :: st2) (bt_set 20 h (Nat.mod i 4096) v)) st') st)
    (cond (Nat.beq op 7) (k (Nat.add pc 1) (bl_set ls arg (Nat.add (bl_get ls arg) 1)) st h)
    (cond (Nat.beq op 8) (k (Nat.add pc 1) ls (arg :: st) h)
    (cond (Nat.beq op 9) (List.rec (motive := fun _ => Nat) 0 (fun b st' _ => List.rec (motive := fun _ => Nat) 0 (fun a st2 _ => cond (Nat.blt a b) (k arg ls [] h) (k (Nat.add pc 1) ls [] h)) st') st)
    (Nat.add 1 (bl_get ls 1)))))))))))
    (Nat.mod ins 16) (Nat.div ins 16)) (bt_get code pc)
noncomputable def bs_run (code : bt_T) (fuel : Nat) : Nat → List Nat → List Nat → bt_T → Nat := Nat.rec (motive := fun _ => Nat → List Nat → List Nat → bt_T → Nat) (fun _ _ _ _ => 0) (fun _ ih pc ls st h => bs_step code pc ls st h ih) fuel
set_option maxRecDepth 100000 in
theorem bs_t1 : bs_run bc_tree 1000 0 [0, 0, 0] [] bt_lf = 0 := by decide +kernel
