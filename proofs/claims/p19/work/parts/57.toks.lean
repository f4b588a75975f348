/-! ===== Strings and bytes; Tokens' small methods (printed by wip/gen/p_toks.py) ===== -/
theorem and255_ : ∀ n : Fin 256, Int32.ofInt (n.val : Int) &&& Int32.ofInt 255 = Int32.ofInt (n.val : Int) := by decide +kernel
theorem i2c_ : ∀ n : Fin 256, ((Int32.ofInt (n.val : Int)).toUInt32 % 65536).toInt32 = Int32.ofInt (n.val : Int) := by decide +kernel
theorem i2b_ : ∀ n : Fin 128, (Int32.ofInt (n.val : Int)).toInt8.toInt32 = Int32.ofInt (n.val : Int) := by decide +kernel
section ST
variable {X : mi_X} {d : Nat} {M : mi_M} {pc c s : Nat} {l : mi_L} {r st : List Value} {h : mi_H} {Q : mi_Z → Prop} {a : Int}
theorem mi_s_and (ht : mi_lk (mi_th M) pc = none) (hi : mi_lk (mi_cd M) pc = some (.iand, 1)) (h0 : 0 ≤ a) (h1 : a < 256) (kk : mi_wp X d M (pc + 1) l (.int (Int32.ofInt a) :: r) h c s Q) : mi_wp X d M pc l (.int (Int32.ofInt 255) :: .int (Int32.ofInt a) :: r) h c s Q := by
  obtain ⟨n, rfl⟩ := Int.eq_ofNat_of_zero_le h0
  refine mi_wp_p (pc' := pc + 1) (l' := l) (st' := .int (Int32.ofInt (n : Int) &&& Int32.ofInt 255) :: r) ht hi rfl ?_
  rw [and255_ ⟨n, by omega⟩]
  exact kk
theorem mi_s_i2c (ht : mi_lk (mi_th M) pc = none) (hi : mi_lk (mi_cd M) pc = some (.i2c, 1)) (h0 : 0 ≤ a) (h1 : a < 256) (kk : mi_wp X d M (pc + 1) l (.int (Int32.ofInt a) :: r) h c s Q) : mi_wp X d M pc l (.int (Int32.ofInt a) :: r) h c s Q := by
  obtain ⟨n, rfl⟩ := Int.eq_ofNat_of_zero_le h0
  refine mi_wp_p (pc' := pc + 1) (l' := l) (st' := .int (((Int32.ofInt (n : Int)).toUInt32 % 65536).toInt32) :: r) ht hi rfl ?_
  rw [i2c_ ⟨n, by omega⟩]
  exact kk
theorem mi_s_i2b (ht : mi_lk (mi_th M) pc = none) (hi : mi_lk (mi_cd M) pc = some (.i2b, 1)) (h0 : 0 ≤ a) (h1 : a < 128) (kk : mi_wp X d M (pc + 1) l (.int (Int32.ofInt a) :: r) h c s Q) : mi_wp X d M pc l (.int (Int32.ofInt a) :: r) h c s Q := by
  obtain ⟨n, rfl⟩ := Int.eq_ofNat_of_zero_le h0
  refine mi_wp_p (pc' := pc + 1) (l' := l) (st' := .int (Int32.ofInt (n : Int)).toInt8.toInt32 :: r) ht hi rfl ?_
  rw [i2b_ ⟨n, by omega⟩]
  exact kk
theorem mi_s_neg (ht : mi_lk (mi_th M) pc = none) (hi : mi_lk (mi_cd M) pc = some (.ineg, 1)) (kk : mi_wp X d M (pc + 1) l (.int (Int32.ofInt (-a)) :: r) h c s Q) : mi_wp X d M pc l (.int (Int32.ofInt a) :: r) h c s Q :=
  mi_wp_p (pc' := pc + 1) (l' := l) (st' := .int (Int32.ofInt (-a)) :: r) ht hi (by rw [Int32.ofInt_neg]; rfl) kk
theorem mi_s_lds {i k idx : Nat} (ht : mi_lk (mi_th M) pc = none) (hi : mi_lk (mi_cd M) pc = some (.ldc idx, 2)) (hn : mi_lk (mi_il (mi_ow M)) idx = none) (hp : mi_lk (mi_sl (mi_ow M)) idx = some i) (hk : (if i < mi_nS then 4 * i else 0) = k) (kk : mi_wp X d M (pc + 2) l (.retAddr k :: st) h c s Q) (hS : i < mi_nS := by decide) : mi_wp X d M pc l st h c s Q := by
  rw [if_pos hS] at hk
  subst hk
  refine mi_wp_m ht hi rfl (by unfold mi_ret; rfl) rfl ?_ kk
  show mi_ldc (mi_ow M) idx (pc + 2) st h c s = _
  unfold mi_ldc
  simp only [hn, hp]
  exact if_pos hS
end ST
def sby9 : List Int := [105, 110, 116]
theorem sln9 {X : mi_X} {d : Nat} {σ : mi_Sg} : ty_Ci X (d + 3) mi_M186 [(0, .retAddr 36)] σ (fun x σ' => x = 3 ∧ σ' = σ) := ty_of_run (n := 40) (fun h => rfl) ⟨_, rfl, rfl, rfl⟩
theorem sat9 {X : mi_X} {d : Nat} {σ : mi_Sg} {j : Int} (h0 : 0 ≤ j) (h1 : j < 3) : ty_Ci X (d + 3) mi_M180 [(0, .retAddr 36), (1, .int (Int32.ofInt j))] σ (fun x σ' => x = sby9.getD j.toNat 0 ∧ σ' = σ) := by
  obtain ⟨k, rfl⟩ := Int.eq_ofNat_of_zero_le h0
  have h2 : k < 3 := by omega
  match k, h2 with
  | 0, _ => exact ty_of_run (n := 60) (fun h => rfl) ⟨_, rfl, rfl, rfl⟩
  | 1, _ => exact ty_of_run (n := 60) (fun h => rfl) ⟨_, rfl, rfl, rfl⟩
  | 2, _ => exact ty_of_run (n := 60) (fun h => rfl) ⟨_, rfl, rfl, rfl⟩
def sby10 : List Int := [98, 111, 111, 108]
theorem sln10 {X : mi_X} {d : Nat} {σ : mi_Sg} : ty_Ci X (d + 3) mi_M186 [(0, .retAddr 40)] σ (fun x σ' => x = 4 ∧ σ' = σ) := ty_of_run (n := 40) (fun h => rfl) ⟨_, rfl, rfl, rfl⟩
theorem sat10 {X : mi_X} {d : Nat} {σ : mi_Sg} {j : Int} (h0 : 0 ≤ j) (h1 : j < 4) : ty_Ci X (d + 3) mi_M180 [(0, .retAddr 40), (1, .int (Int32.ofInt j))] σ (fun x σ' => x = sby10.getD j.toNat 0 ∧ σ' = σ) := by
  obtain ⟨k, rfl⟩ := Int.eq_ofNat_of_zero_le h0
  have h2 : k < 4 := by omega
  match k, h2 with
  | 0, _ => exact ty_of_run (n := 60) (fun h => rfl) ⟨_, rfl, rfl, rfl⟩
  | 1, _ => exact ty_of_run (n := 60) (fun h => rfl) ⟨_, rfl, rfl, rfl⟩
  | 2, _ => exact ty_of_run (n := 60) (fun h => rfl) ⟨_, rfl, rfl, rfl⟩
  | 3, _ => exact ty_of_run (n := 60) (fun h => rfl) ⟨_, rfl, rfl, rfl⟩
def sby11 : List Int := [32, 42, 32]
theorem sln11 {X : mi_X} {d : Nat} {σ : mi_Sg} : ty_Ci X (d + 3) mi_M186 [(0, .retAddr 44)] σ (fun x σ' => x = 3 ∧ σ' = σ) := ty_of_run (n := 40) (fun h => rfl) ⟨_, rfl, rfl, rfl⟩
theorem sat11 {X : mi_X} {d : Nat} {σ : mi_Sg} {j : Int} (h0 : 0 ≤ j) (h1 : j < 3) : ty_Ci X (d + 3) mi_M180 [(0, .retAddr 44), (1, .int (Int32.ofInt j))] σ (fun x σ' => x = sby11.getD j.toNat 0 ∧ σ' = σ) := by
  obtain ⟨k, rfl⟩ := Int.eq_ofNat_of_zero_le h0
  have h2 : k < 3 := by omega
  match k, h2 with
  | 0, _ => exact ty_of_run (n := 60) (fun h => rfl) ⟨_, rfl, rfl, rfl⟩
  | 1, _ => exact ty_of_run (n := 60) (fun h => rfl) ⟨_, rfl, rfl, rfl⟩
  | 2, _ => exact ty_of_run (n := 60) (fun h => rfl) ⟨_, rfl, rfl, rfl⟩
def sby12 : List Int := [32, 45, 62, 32]
theorem sln12 {X : mi_X} {d : Nat} {σ : mi_Sg} : ty_Ci X (d + 3) mi_M186 [(0, .retAddr 48)] σ (fun x σ' => x = 4 ∧ σ' = σ) := ty_of_run (n := 40) (fun h => rfl) ⟨_, rfl, rfl, rfl⟩
theorem sat12 {X : mi_X} {d : Nat} {σ : mi_Sg} {j : Int} (h0 : 0 ≤ j) (h1 : j < 4) : ty_Ci X (d + 3) mi_M180 [(0, .retAddr 48), (1, .int (Int32.ofInt j))] σ (fun x σ' => x = sby12.getD j.toNat 0 ∧ σ' = σ) := by
  obtain ⟨k, rfl⟩ := Int.eq_ofNat_of_zero_le h0
  have h2 : k < 4 := by omega
  match k, h2 with
  | 0, _ => exact ty_of_run (n := 60) (fun h => rfl) ⟨_, rfl, rfl, rfl⟩
  | 1, _ => exact ty_of_run (n := 60) (fun h => rfl) ⟨_, rfl, rfl, rfl⟩
  | 2, _ => exact ty_of_run (n := 60) (fun h => rfl) ⟨_, rfl, rfl, rfl⟩
  | 3, _ => exact ty_of_run (n := 60) (fun h => rfl) ⟨_, rfl, rfl, rfl⟩
def sby16 : List Int := [45]
theorem sln16 {X : mi_X} {d : Nat} {σ : mi_Sg} : ty_Ci X (d + 3) mi_M186 [(0, .retAddr 64)] σ (fun x σ' => x = 1 ∧ σ' = σ) := ty_of_run (n := 40) (fun h => rfl) ⟨_, rfl, rfl, rfl⟩
theorem sat16 {X : mi_X} {d : Nat} {σ : mi_Sg} {j : Int} (h0 : 0 ≤ j) (h1 : j < 1) : ty_Ci X (d + 3) mi_M180 [(0, .retAddr 64), (1, .int (Int32.ofInt j))] σ (fun x σ' => x = sby16.getD j.toNat 0 ∧ σ' = σ) := by
  obtain ⟨k, rfl⟩ := Int.eq_ofNat_of_zero_le h0
  have h2 : k < 1 := by omega
  match k, h2 with
  | 0, _ => exact ty_of_run (n := 60) (fun h => rfl) ⟨_, rfl, rfl, rfl⟩
def sby19 : List Int := [40]
theorem sln19 {X : mi_X} {d : Nat} {σ : mi_Sg} : ty_Ci X (d + 3) mi_M186 [(0, .retAddr 76)] σ (fun x σ' => x = 1 ∧ σ' = σ) := ty_of_run (n := 40) (fun h => rfl) ⟨_, rfl, rfl, rfl⟩
theorem sat19 {X : mi_X} {d : Nat} {σ : mi_Sg} {j : Int} (h0 : 0 ≤ j) (h1 : j < 1) : ty_Ci X (d + 3) mi_M180 [(0, .retAddr 76), (1, .int (Int32.ofInt j))] σ (fun x σ' => x = sby19.getD j.toNat 0 ∧ σ' = σ) := by
  obtain ⟨k, rfl⟩ := Int.eq_ofNat_of_zero_le h0
  have h2 : k < 1 := by omega
  match k, h2 with
  | 0, _ => exact ty_of_run (n := 60) (fun h => rfl) ⟨_, rfl, rfl, rfl⟩
def sby20 : List Int := [105, 110, 116]
theorem sln20 {X : mi_X} {d : Nat} {σ : mi_Sg} : ty_Ci X (d + 3) mi_M186 [(0, .retAddr 80)] σ (fun x σ' => x = 3 ∧ σ' = σ) := ty_of_run (n := 40) (fun h => rfl) ⟨_, rfl, rfl, rfl⟩
theorem sat20 {X : mi_X} {d : Nat} {σ : mi_Sg} {j : Int} (h0 : 0 ≤ j) (h1 : j < 3) : ty_Ci X (d + 3) mi_M180 [(0, .retAddr 80), (1, .int (Int32.ofInt j))] σ (fun x σ' => x = sby20.getD j.toNat 0 ∧ σ' = σ) := by
  obtain ⟨k, rfl⟩ := Int.eq_ofNat_of_zero_le h0
  have h2 : k < 3 := by omega
  match k, h2 with
  | 0, _ => exact ty_of_run (n := 60) (fun h => rfl) ⟨_, rfl, rfl, rfl⟩
  | 1, _ => exact ty_of_run (n := 60) (fun h => rfl) ⟨_, rfl, rfl, rfl⟩
  | 2, _ => exact ty_of_run (n := 60) (fun h => rfl) ⟨_, rfl, rfl, rfl⟩
def sby21 : List Int := [98, 111, 111, 108]
theorem sln21 {X : mi_X} {d : Nat} {σ : mi_Sg} : ty_Ci X (d + 3) mi_M186 [(0, .retAddr 84)] σ (fun x σ' => x = 4 ∧ σ' = σ) := ty_of_run (n := 40) (fun h => rfl) ⟨_, rfl, rfl, rfl⟩
theorem sat21 {X : mi_X} {d : Nat} {σ : mi_Sg} {j : Int} (h0 : 0 ≤ j) (h1 : j < 4) : ty_Ci X (d + 3) mi_M180 [(0, .retAddr 84), (1, .int (Int32.ofInt j))] σ (fun x σ' => x = sby21.getD j.toNat 0 ∧ σ' = σ) := by
  obtain ⟨k, rfl⟩ := Int.eq_ofNat_of_zero_le h0
  have h2 : k < 4 := by omega
  match k, h2 with
  | 0, _ => exact ty_of_run (n := 60) (fun h => rfl) ⟨_, rfl, rfl, rfl⟩
  | 1, _ => exact ty_of_run (n := 60) (fun h => rfl) ⟨_, rfl, rfl, rfl⟩
  | 2, _ => exact ty_of_run (n := 60) (fun h => rfl) ⟨_, rfl, rfl, rfl⟩
  | 3, _ => exact ty_of_run (n := 60) (fun h => rfl) ⟨_, rfl, rfl, rfl⟩
def sby22 : List Int := [39, 97]
theorem sln22 {X : mi_X} {d : Nat} {σ : mi_Sg} : ty_Ci X (d + 3) mi_M186 [(0, .retAddr 88)] σ (fun x σ' => x = 2 ∧ σ' = σ) := ty_of_run (n := 40) (fun h => rfl) ⟨_, rfl, rfl, rfl⟩
theorem sat22 {X : mi_X} {d : Nat} {σ : mi_Sg} {j : Int} (h0 : 0 ≤ j) (h1 : j < 2) : ty_Ci X (d + 3) mi_M180 [(0, .retAddr 88), (1, .int (Int32.ofInt j))] σ (fun x σ' => x = sby22.getD j.toNat 0 ∧ σ' = σ) := by
  obtain ⟨k, rfl⟩ := Int.eq_ofNat_of_zero_le h0
  have h2 : k < 2 := by omega
  match k, h2 with
  | 0, _ => exact ty_of_run (n := 60) (fun h => rfl) ⟨_, rfl, rfl, rfl⟩
  | 1, _ => exact ty_of_run (n := 60) (fun h => rfl) ⟨_, rfl, rfl, rfl⟩
def sby23 : List Int := [39, 98]
theorem sln23 {X : mi_X} {d : Nat} {σ : mi_Sg} : ty_Ci X (d + 3) mi_M186 [(0, .retAddr 92)] σ (fun x σ' => x = 2 ∧ σ' = σ) := ty_of_run (n := 40) (fun h => rfl) ⟨_, rfl, rfl, rfl⟩
theorem sat23 {X : mi_X} {d : Nat} {σ : mi_Sg} {j : Int} (h0 : 0 ≤ j) (h1 : j < 2) : ty_Ci X (d + 3) mi_M180 [(0, .retAddr 92), (1, .int (Int32.ofInt j))] σ (fun x σ' => x = sby23.getD j.toNat 0 ∧ σ' = σ) := by
  obtain ⟨k, rfl⟩ := Int.eq_ofNat_of_zero_le h0
  have h2 : k < 2 := by omega
  match k, h2 with
  | 0, _ => exact ty_of_run (n := 60) (fun h => rfl) ⟨_, rfl, rfl, rfl⟩
  | 1, _ => exact ty_of_run (n := 60) (fun h => rfl) ⟨_, rfl, rfl, rfl⟩
def sby24 : List Int := [39, 99]
theorem sln24 {X : mi_X} {d : Nat} {σ : mi_Sg} : ty_Ci X (d + 3) mi_M186 [(0, .retAddr 96)] σ (fun x σ' => x = 2 ∧ σ' = σ) := ty_of_run (n := 40) (fun h => rfl) ⟨_, rfl, rfl, rfl⟩
theorem sat24 {X : mi_X} {d : Nat} {σ : mi_Sg} {j : Int} (h0 : 0 ≤ j) (h1 : j < 2) : ty_Ci X (d + 3) mi_M180 [(0, .retAddr 96), (1, .int (Int32.ofInt j))] σ (fun x σ' => x = sby24.getD j.toNat 0 ∧ σ' = σ) := by
  obtain ⟨k, rfl⟩ := Int.eq_ofNat_of_zero_le h0
  have h2 : k < 2 := by omega
  match k, h2 with
  | 0, _ => exact ty_of_run (n := 60) (fun h => rfl) ⟨_, rfl, rfl, rfl⟩
  | 1, _ => exact ty_of_run (n := 60) (fun h => rfl) ⟨_, rfl, rfl, rfl⟩
def sby25 : List Int := [39, 100]
theorem sln25 {X : mi_X} {d : Nat} {σ : mi_Sg} : ty_Ci X (d + 3) mi_M186 [(0, .retAddr 100)] σ (fun x σ' => x = 2 ∧ σ' = σ) := ty_of_run (n := 40) (fun h => rfl) ⟨_, rfl, rfl, rfl⟩
theorem sat25 {X : mi_X} {d : Nat} {σ : mi_Sg} {j : Int} (h0 : 0 ≤ j) (h1 : j < 2) : ty_Ci X (d + 3) mi_M180 [(0, .retAddr 100), (1, .int (Int32.ofInt j))] σ (fun x σ' => x = sby25.getD j.toNat 0 ∧ σ' = σ) := by
  obtain ⟨k, rfl⟩ := Int.eq_ofNat_of_zero_le h0
  have h2 : k < 2 := by omega
  match k, h2 with
  | 0, _ => exact ty_of_run (n := 60) (fun h => rfl) ⟨_, rfl, rfl, rfl⟩
  | 1, _ => exact ty_of_run (n := 60) (fun h => rfl) ⟨_, rfl, rfl, rfl⟩
def sby26 : List Int := [39, 101]
theorem sln26 {X : mi_X} {d : Nat} {σ : mi_Sg} : ty_Ci X (d + 3) mi_M186 [(0, .retAddr 104)] σ (fun x σ' => x = 2 ∧ σ' = σ) := ty_of_run (n := 40) (fun h => rfl) ⟨_, rfl, rfl, rfl⟩
theorem sat26 {X : mi_X} {d : Nat} {σ : mi_Sg} {j : Int} (h0 : 0 ≤ j) (h1 : j < 2) : ty_Ci X (d + 3) mi_M180 [(0, .retAddr 104), (1, .int (Int32.ofInt j))] σ (fun x σ' => x = sby26.getD j.toNat 0 ∧ σ' = σ) := by
  obtain ⟨k, rfl⟩ := Int.eq_ofNat_of_zero_le h0
  have h2 : k < 2 := by omega
  match k, h2 with
  | 0, _ => exact ty_of_run (n := 60) (fun h => rfl) ⟨_, rfl, rfl, rfl⟩
  | 1, _ => exact ty_of_run (n := 60) (fun h => rfl) ⟨_, rfl, rfl, rfl⟩
def sby27 : List Int := [108, 105, 115, 116, 32]
theorem sln27 {X : mi_X} {d : Nat} {σ : mi_Sg} : ty_Ci X (d + 3) mi_M186 [(0, .retAddr 108)] σ (fun x σ' => x = 5 ∧ σ' = σ) := ty_of_run (n := 40) (fun h => rfl) ⟨_, rfl, rfl, rfl⟩
theorem sat27 {X : mi_X} {d : Nat} {σ : mi_Sg} {j : Int} (h0 : 0 ≤ j) (h1 : j < 5) : ty_Ci X (d + 3) mi_M180 [(0, .retAddr 108), (1, .int (Int32.ofInt j))] σ (fun x σ' => x = sby27.getD j.toNat 0 ∧ σ' = σ) := by
  obtain ⟨k, rfl⟩ := Int.eq_ofNat_of_zero_le h0
  have h2 : k < 5 := by omega
  match k, h2 with
  | 0, _ => exact ty_of_run (n := 60) (fun h => rfl) ⟨_, rfl, rfl, rfl⟩
  | 1, _ => exact ty_of_run (n := 60) (fun h => rfl) ⟨_, rfl, rfl, rfl⟩
  | 2, _ => exact ty_of_run (n := 60) (fun h => rfl) ⟨_, rfl, rfl, rfl⟩
  | 3, _ => exact ty_of_run (n := 60) (fun h => rfl) ⟨_, rfl, rfl, rfl⟩
  | 4, _ => exact ty_of_run (n := 60) (fun h => rfl) ⟨_, rfl, rfl, rfl⟩
def sby28 : List Int := [32, 42, 32]
theorem sln28 {X : mi_X} {d : Nat} {σ : mi_Sg} : ty_Ci X (d + 3) mi_M186 [(0, .retAddr 112)] σ (fun x σ' => x = 3 ∧ σ' = σ) := ty_of_run (n := 40) (fun h => rfl) ⟨_, rfl, rfl, rfl⟩
theorem sat28 {X : mi_X} {d : Nat} {σ : mi_Sg} {j : Int} (h0 : 0 ≤ j) (h1 : j < 3) : ty_Ci X (d + 3) mi_M180 [(0, .retAddr 112), (1, .int (Int32.ofInt j))] σ (fun x σ' => x = sby28.getD j.toNat 0 ∧ σ' = σ) := by
  obtain ⟨k, rfl⟩ := Int.eq_ofNat_of_zero_le h0
  have h2 : k < 3 := by omega
  match k, h2 with
  | 0, _ => exact ty_of_run (n := 60) (fun h => rfl) ⟨_, rfl, rfl, rfl⟩
  | 1, _ => exact ty_of_run (n := 60) (fun h => rfl) ⟨_, rfl, rfl, rfl⟩
  | 2, _ => exact ty_of_run (n := 60) (fun h => rfl) ⟨_, rfl, rfl, rfl⟩
def sby29 : List Int := [32, 45, 62, 32]
theorem sln29 {X : mi_X} {d : Nat} {σ : mi_Sg} : ty_Ci X (d + 3) mi_M186 [(0, .retAddr 116)] σ (fun x σ' => x = 4 ∧ σ' = σ) := ty_of_run (n := 40) (fun h => rfl) ⟨_, rfl, rfl, rfl⟩
theorem sat29 {X : mi_X} {d : Nat} {σ : mi_Sg} {j : Int} (h0 : 0 ≤ j) (h1 : j < 4) : ty_Ci X (d + 3) mi_M180 [(0, .retAddr 116), (1, .int (Int32.ofInt j))] σ (fun x σ' => x = sby29.getD j.toNat 0 ∧ σ' = σ) := by
  obtain ⟨k, rfl⟩ := Int.eq_ofNat_of_zero_le h0
  have h2 : k < 4 := by omega
  match k, h2 with
  | 0, _ => exact ty_of_run (n := 60) (fun h => rfl) ⟨_, rfl, rfl, rfl⟩
  | 1, _ => exact ty_of_run (n := 60) (fun h => rfl) ⟨_, rfl, rfl, rfl⟩
  | 2, _ => exact ty_of_run (n := 60) (fun h => rfl) ⟨_, rfl, rfl, rfl⟩
  | 3, _ => exact ty_of_run (n := 60) (fun h => rfl) ⟨_, rfl, rfl, rfl⟩
def sby30 : List Int := [41]
theorem sln30 {X : mi_X} {d : Nat} {σ : mi_Sg} : ty_Ci X (d + 3) mi_M186 [(0, .retAddr 120)] σ (fun x σ' => x = 1 ∧ σ' = σ) := ty_of_run (n := 40) (fun h => rfl) ⟨_, rfl, rfl, rfl⟩
theorem sat30 {X : mi_X} {d : Nat} {σ : mi_Sg} {j : Int} (h0 : 0 ≤ j) (h1 : j < 1) : ty_Ci X (d + 3) mi_M180 [(0, .retAddr 120), (1, .int (Int32.ofInt j))] σ (fun x σ' => x = sby30.getD j.toNat 0 ∧ σ' = σ) := by
  obtain ⟨k, rfl⟩ := Int.eq_ofNat_of_zero_le h0
  have h2 : k < 1 := by omega
  match k, h2 with
  | 0, _ => exact ty_of_run (n := 60) (fun h => rfl) ⟨_, rfl, rfl, rfl⟩
def sby31 : List Int := [100, 101, 102, 32, 100]
theorem sln31 {X : mi_X} {d : Nat} {σ : mi_Sg} : ty_Ci X (d + 3) mi_M186 [(0, .retAddr 124)] σ (fun x σ' => x = 5 ∧ σ' = σ) := ty_of_run (n := 40) (fun h => rfl) ⟨_, rfl, rfl, rfl⟩
theorem sat31 {X : mi_X} {d : Nat} {σ : mi_Sg} {j : Int} (h0 : 0 ≤ j) (h1 : j < 5) : ty_Ci X (d + 3) mi_M180 [(0, .retAddr 124), (1, .int (Int32.ofInt j))] σ (fun x σ' => x = sby31.getD j.toNat 0 ∧ σ' = σ) := by
  obtain ⟨k, rfl⟩ := Int.eq_ofNat_of_zero_le h0
  have h2 : k < 5 := by omega
  match k, h2 with
  | 0, _ => exact ty_of_run (n := 60) (fun h => rfl) ⟨_, rfl, rfl, rfl⟩
  | 1, _ => exact ty_of_run (n := 60) (fun h => rfl) ⟨_, rfl, rfl, rfl⟩
  | 2, _ => exact ty_of_run (n := 60) (fun h => rfl) ⟨_, rfl, rfl, rfl⟩
  | 3, _ => exact ty_of_run (n := 60) (fun h => rfl) ⟨_, rfl, rfl, rfl⟩
  | 4, _ => exact ty_of_run (n := 60) (fun h => rfl) ⟨_, rfl, rfl, rfl⟩
def sby32 : List Int := [32, 58, 32]
theorem sln32 {X : mi_X} {d : Nat} {σ : mi_Sg} : ty_Ci X (d + 3) mi_M186 [(0, .retAddr 128)] σ (fun x σ' => x = 3 ∧ σ' = σ) := ty_of_run (n := 40) (fun h => rfl) ⟨_, rfl, rfl, rfl⟩
theorem sat32 {X : mi_X} {d : Nat} {σ : mi_Sg} {j : Int} (h0 : 0 ≤ j) (h1 : j < 3) : ty_Ci X (d + 3) mi_M180 [(0, .retAddr 128), (1, .int (Int32.ofInt j))] σ (fun x σ' => x = sby32.getD j.toNat 0 ∧ σ' = σ) := by
  obtain ⟨k, rfl⟩ := Int.eq_ofNat_of_zero_le h0
  have h2 : k < 3 := by omega
  match k, h2 with
  | 0, _ => exact ty_of_run (n := 60) (fun h => rfl) ⟨_, rfl, rfl, rfl⟩
  | 1, _ => exact ty_of_run (n := 60) (fun h => rfl) ⟨_, rfl, rfl, rfl⟩
  | 2, _ => exact ty_of_run (n := 60) (fun h => rfl) ⟨_, rfl, rfl, rfl⟩
def sby33 : List Int := [32, 61, 32, 100]
theorem sln33 {X : mi_X} {d : Nat} {σ : mi_Sg} : ty_Ci X (d + 3) mi_M186 [(0, .retAddr 132)] σ (fun x σ' => x = 4 ∧ σ' = σ) := ty_of_run (n := 40) (fun h => rfl) ⟨_, rfl, rfl, rfl⟩
theorem sat33 {X : mi_X} {d : Nat} {σ : mi_Sg} {j : Int} (h0 : 0 ≤ j) (h1 : j < 4) : ty_Ci X (d + 3) mi_M180 [(0, .retAddr 132), (1, .int (Int32.ofInt j))] σ (fun x σ' => x = sby33.getD j.toNat 0 ∧ σ' = σ) := by
  obtain ⟨k, rfl⟩ := Int.eq_ofNat_of_zero_le h0
  have h2 : k < 4 := by omega
  match k, h2 with
  | 0, _ => exact ty_of_run (n := 60) (fun h => rfl) ⟨_, rfl, rfl, rfl⟩
  | 1, _ => exact ty_of_run (n := 60) (fun h => rfl) ⟨_, rfl, rfl, rfl⟩
  | 2, _ => exact ty_of_run (n := 60) (fun h => rfl) ⟨_, rfl, rfl, rfl⟩
  | 3, _ => exact ty_of_run (n := 60) (fun h => rfl) ⟨_, rfl, rfl, rfl⟩
def sby34 : List Int := [59, 32]
theorem sln34 {X : mi_X} {d : Nat} {σ : mi_Sg} : ty_Ci X (d + 3) mi_M186 [(0, .retAddr 136)] σ (fun x σ' => x = 2 ∧ σ' = σ) := ty_of_run (n := 40) (fun h => rfl) ⟨_, rfl, rfl, rfl⟩
theorem sat34 {X : mi_X} {d : Nat} {σ : mi_Sg} {j : Int} (h0 : 0 ≤ j) (h1 : j < 2) : ty_Ci X (d + 3) mi_M180 [(0, .retAddr 136), (1, .int (Int32.ofInt j))] σ (fun x σ' => x = sby34.getD j.toNat 0 ∧ σ' = σ) := by
  obtain ⟨k, rfl⟩ := Int.eq_ofNat_of_zero_le h0
  have h2 : k < 2 := by omega
  match k, h2 with
  | 0, _ => exact ty_of_run (n := 60) (fun h => rfl) ⟨_, rfl, rfl, rfl⟩
  | 1, _ => exact ty_of_run (n := 60) (fun h => rfl) ⟨_, rfl, rfl, rfl⟩
def sby35 : List Int := [100, 101, 102, 32, 101, 32, 61, 32, 40, 100, 48, 44, 32, 100, 49, 41, 59, 32, 100, 101, 102, 32, 105, 32, 61, 32, 102, 117, 110, 32, 120, 32, 45, 62, 32, 100, 50, 59, 32, 100, 101, 102, 32, 117, 32, 61, 32, 108, 101, 116, 32, 118, 32, 61, 32, 100, 48, 32, 105, 110, 32, 40, 118, 44, 32, 118, 41, 59]
theorem sln35 {X : mi_X} {d : Nat} {σ : mi_Sg} : ty_Ci X (d + 3) mi_M186 [(0, .retAddr 140)] σ (fun x σ' => x = 68 ∧ σ' = σ) := ty_of_run (n := 40) (fun h => rfl) ⟨_, rfl, rfl, rfl⟩
theorem sat35 {X : mi_X} {d : Nat} {σ : mi_Sg} {j : Int} (h0 : 0 ≤ j) (h1 : j < 68) : ty_Ci X (d + 3) mi_M180 [(0, .retAddr 140), (1, .int (Int32.ofInt j))] σ (fun x σ' => x = sby35.getD j.toNat 0 ∧ σ' = σ) := by
  obtain ⟨k, rfl⟩ := Int.eq_ofNat_of_zero_le h0
  have h2 : k < 68 := by omega
  match k, h2 with
  | 0, _ => exact ty_of_run (n := 60) (fun h => rfl) ⟨_, rfl, rfl, rfl⟩
  | 1, _ => exact ty_of_run (n := 60) (fun h => rfl) ⟨_, rfl, rfl, rfl⟩
  | 2, _ => exact ty_of_run (n := 60) (fun h => rfl) ⟨_, rfl, rfl, rfl⟩
  | 3, _ => exact ty_of_run (n := 60) (fun h => rfl) ⟨_, rfl, rfl, rfl⟩
  | 4, _ => exact ty_of_run (n := 60) (fun h => rfl) ⟨_, rfl, rfl, rfl⟩
  | 5, _ => exact ty_of_run (n := 60) (fun h => rfl) ⟨_, rfl, rfl, rfl⟩
  | 6, _ => exact ty_of_run (n := 60) (fun h => rfl) ⟨_, rfl, rfl, rfl⟩
  | 7, _ => exact ty_of_run (n := 60) (fun h => rfl) ⟨_, rfl, rfl, rfl⟩
  | 8, _ => exact ty_of_run (n := 60) (fun h => rfl) ⟨_, rfl, rfl, rfl⟩
  | 9, _ => exact ty_of_run (n := 60) (fun h => rfl) ⟨_, rfl, rfl, rfl⟩
  | 10, _ => exact ty_of_run (n := 60) (fun h => rfl) ⟨_, rfl, rfl, rfl⟩
  | 11, _ => exact ty_of_run (n := 60) (fun h => rfl) ⟨_, rfl, rfl, rfl⟩
  | 12, _ => exact ty_of_run (n := 60) (fun h => rfl) ⟨_, rfl, rfl, rfl⟩
  | 13, _ => exact ty_of_run (n := 60) (fun h => rfl) ⟨_, rfl, rfl, rfl⟩
  | 14, _ => exact ty_of_run (n := 60) (fun h => rfl) ⟨_, rfl, rfl, rfl⟩
  | 15, _ => exact ty_of_run (n := 60) (fun h => rfl) ⟨_, rfl, rfl, rfl⟩
  | 16, _ => exact ty_of_run (n := 60) (fun h => rfl) ⟨_, rfl, rfl, rfl⟩
  | 17, _ => exact ty_of_run (n := 60) (fun h => rfl) ⟨_, rfl, rfl, rfl⟩
  | 18, _ => exact ty_of_run (n := 60) (fun h => rfl) ⟨_, rfl, rfl, rfl⟩
  | 19, _ => exact ty_of_run (n := 60) (fun h => rfl) ⟨_, rfl, rfl, rfl⟩
  | 20, _ => exact ty_of_run (n := 60) (fun h => rfl) ⟨_, rfl, rfl, rfl⟩
  | 21, _ => exact ty_of_run (n := 60) (fun h => rfl) ⟨_, rfl, rfl, rfl⟩
  | 22, _ => exact ty_of_run (n := 60) (fun h => rfl) ⟨_, rfl, rfl, rfl⟩
  | 23, _ => exact ty_of_run (n := 60) (fun h => rfl) ⟨_, rfl, rfl, rfl⟩
  | 24, _ => exact ty_of_run (n := 60) (fun h => rfl) ⟨_, rfl, rfl, rfl⟩
  | 25, _ => exact ty_of_run (n := 60) (fun h => rfl) ⟨_, rfl, rfl, rfl⟩
  | 26, _ => exact ty_of_run (n := 60) (fun h => rfl) ⟨_, rfl, rfl, rfl⟩
  | 27, _ => exact ty_of_run (n := 60) (fun h => rfl) ⟨_, rfl, rfl, rfl⟩
  | 28, _ => exact ty_of_run (n := 60) (fun h => rfl) ⟨_, rfl, rfl, rfl⟩
  | 29, _ => exact ty_of_run (n := 60) (fun h => rfl) ⟨_, rfl, rfl, rfl⟩
  | 30, _ => exact ty_of_run (n := 60) (fun h => rfl) ⟨_, rfl, rfl, rfl⟩
  | 31, _ => exact ty_of_run (n := 60) (fun h => rfl) ⟨_, rfl, rfl, rfl⟩
  | 32, _ => exact ty_of_run (n := 60) (fun h => rfl) ⟨_, rfl, rfl, rfl⟩
  | 33, _ => exact ty_of_run (n := 60) (fun h => rfl) ⟨_, rfl, rfl, rfl⟩
  | 34, _ => exact ty_of_run (n := 60) (fun h => rfl) ⟨_, rfl, rfl, rfl⟩
  | 35, _ => exact ty_of_run (n := 60) (fun h => rfl) ⟨_, rfl, rfl, rfl⟩
  | 36, _ => exact ty_of_run (n := 60) (fun h => rfl) ⟨_, rfl, rfl, rfl⟩
  | 37, _ => exact ty_of_run (n := 60) (fun h => rfl) ⟨_, rfl, rfl, rfl⟩
  | 38, _ => exact ty_of_run (n := 60) (fun h => rfl) ⟨_, rfl, rfl, rfl⟩
  | 39, _ => exact ty_of_run (n := 60) (fun h => rfl) ⟨_, rfl, rfl, rfl⟩
  | 40, _ => exact ty_of_run (n := 60) (fun h => rfl) ⟨_, rfl, rfl, rfl⟩
  | 41, _ => exact ty_of_run (n := 60) (fun h => rfl) ⟨_, rfl, rfl, rfl⟩
  | 42, _ => exact ty_of_run (n := 60) (fun h => rfl) ⟨_, rfl, rfl, rfl⟩
  | 43, _ => exact ty_of_run (n := 60) (fun h => rfl) ⟨_, rfl, rfl, rfl⟩
  | 44, _ => exact ty_of_run (n := 60) (fun h => rfl) ⟨_, rfl, rfl, rfl⟩
  | 45, _ => exact ty_of_run (n := 60) (fun h => rfl) ⟨_, rfl, rfl, rfl⟩
  | 46, _ => exact ty_of_run (n := 60) (fun h => rfl) ⟨_, rfl, rfl, rfl⟩
  | 47, _ => exact ty_of_run (n := 60) (fun h => rfl) ⟨_, rfl, rfl, rfl⟩
  | 48, _ => exact ty_of_run (n := 60) (fun h => rfl) ⟨_, rfl, rfl, rfl⟩
  | 49, _ => exact ty_of_run (n := 60) (fun h => rfl) ⟨_, rfl, rfl, rfl⟩
  | 50, _ => exact ty_of_run (n := 60) (fun h => rfl) ⟨_, rfl, rfl, rfl⟩
  | 51, _ => exact ty_of_run (n := 60) (fun h => rfl) ⟨_, rfl, rfl, rfl⟩
  | 52, _ => exact ty_of_run (n := 60) (fun h => rfl) ⟨_, rfl, rfl, rfl⟩
  | 53, _ => exact ty_of_run (n := 60) (fun h => rfl) ⟨_, rfl, rfl, rfl⟩
  | 54, _ => exact ty_of_run (n := 60) (fun h => rfl) ⟨_, rfl, rfl, rfl⟩
  | 55, _ => exact ty_of_run (n := 60) (fun h => rfl) ⟨_, rfl, rfl, rfl⟩
  | 56, _ => exact ty_of_run (n := 60) (fun h => rfl) ⟨_, rfl, rfl, rfl⟩
  | 57, _ => exact ty_of_run (n := 60) (fun h => rfl) ⟨_, rfl, rfl, rfl⟩
  | 58, _ => exact ty_of_run (n := 60) (fun h => rfl) ⟨_, rfl, rfl, rfl⟩
  | 59, _ => exact ty_of_run (n := 60) (fun h => rfl) ⟨_, rfl, rfl, rfl⟩
  | 60, _ => exact ty_of_run (n := 60) (fun h => rfl) ⟨_, rfl, rfl, rfl⟩
  | 61, _ => exact ty_of_run (n := 60) (fun h => rfl) ⟨_, rfl, rfl, rfl⟩
  | 62, _ => exact ty_of_run (n := 60) (fun h => rfl) ⟨_, rfl, rfl, rfl⟩
  | 63, _ => exact ty_of_run (n := 60) (fun h => rfl) ⟨_, rfl, rfl, rfl⟩
  | 64, _ => exact ty_of_run (n := 60) (fun h => rfl) ⟨_, rfl, rfl, rfl⟩
  | 65, _ => exact ty_of_run (n := 60) (fun h => rfl) ⟨_, rfl, rfl, rfl⟩
  | 66, _ => exact ty_of_run (n := 60) (fun h => rfl) ⟨_, rfl, rfl, rfl⟩
  | 67, _ => exact ty_of_run (n := 60) (fun h => rfl) ⟨_, rfl, rfl, rfl⟩
def sby36 : List Int := [100, 48]
theorem sln36 {X : mi_X} {d : Nat} {σ : mi_Sg} : ty_Ci X (d + 3) mi_M186 [(0, .retAddr 144)] σ (fun x σ' => x = 2 ∧ σ' = σ) := ty_of_run (n := 40) (fun h => rfl) ⟨_, rfl, rfl, rfl⟩
theorem sat36 {X : mi_X} {d : Nat} {σ : mi_Sg} {j : Int} (h0 : 0 ≤ j) (h1 : j < 2) : ty_Ci X (d + 3) mi_M180 [(0, .retAddr 144), (1, .int (Int32.ofInt j))] σ (fun x σ' => x = sby36.getD j.toNat 0 ∧ σ' = σ) := by
  obtain ⟨k, rfl⟩ := Int.eq_ofNat_of_zero_le h0
  have h2 : k < 2 := by omega
  match k, h2 with
  | 0, _ => exact ty_of_run (n := 60) (fun h => rfl) ⟨_, rfl, rfl, rfl⟩
  | 1, _ => exact ty_of_run (n := 60) (fun h => rfl) ⟨_, rfl, rfl, rfl⟩
def sby37 : List Int := [100, 49]
theorem sln37 {X : mi_X} {d : Nat} {σ : mi_Sg} : ty_Ci X (d + 3) mi_M186 [(0, .retAddr 148)] σ (fun x σ' => x = 2 ∧ σ' = σ) := ty_of_run (n := 40) (fun h => rfl) ⟨_, rfl, rfl, rfl⟩
theorem sat37 {X : mi_X} {d : Nat} {σ : mi_Sg} {j : Int} (h0 : 0 ≤ j) (h1 : j < 2) : ty_Ci X (d + 3) mi_M180 [(0, .retAddr 148), (1, .int (Int32.ofInt j))] σ (fun x σ' => x = sby37.getD j.toNat 0 ∧ σ' = σ) := by
  obtain ⟨k, rfl⟩ := Int.eq_ofNat_of_zero_le h0
  have h2 : k < 2 := by omega
  match k, h2 with
  | 0, _ => exact ty_of_run (n := 60) (fun h => rfl) ⟨_, rfl, rfl, rfl⟩
  | 1, _ => exact ty_of_run (n := 60) (fun h => rfl) ⟨_, rfl, rfl, rfl⟩
def sby38 : List Int := [100, 50]
theorem sln38 {X : mi_X} {d : Nat} {σ : mi_Sg} : ty_Ci X (d + 3) mi_M186 [(0, .retAddr 152)] σ (fun x σ' => x = 2 ∧ σ' = σ) := ty_of_run (n := 40) (fun h => rfl) ⟨_, rfl, rfl, rfl⟩
theorem sat38 {X : mi_X} {d : Nat} {σ : mi_Sg} {j : Int} (h0 : 0 ≤ j) (h1 : j < 2) : ty_Ci X (d + 3) mi_M180 [(0, .retAddr 152), (1, .int (Int32.ofInt j))] σ (fun x σ' => x = sby38.getD j.toNat 0 ∧ σ' = σ) := by
  obtain ⟨k, rfl⟩ := Int.eq_ofNat_of_zero_le h0
  have h2 : k < 2 := by omega
  match k, h2 with
  | 0, _ => exact ty_of_run (n := 60) (fun h => rfl) ⟨_, rfl, rfl, rfl⟩
  | 1, _ => exact ty_of_run (n := 60) (fun h => rfl) ⟨_, rfl, rfl, rfl⟩
def sby39 : List Int := [101]
theorem sln39 {X : mi_X} {d : Nat} {σ : mi_Sg} : ty_Ci X (d + 3) mi_M186 [(0, .retAddr 156)] σ (fun x σ' => x = 1 ∧ σ' = σ) := ty_of_run (n := 40) (fun h => rfl) ⟨_, rfl, rfl, rfl⟩
theorem sat39 {X : mi_X} {d : Nat} {σ : mi_Sg} {j : Int} (h0 : 0 ≤ j) (h1 : j < 1) : ty_Ci X (d + 3) mi_M180 [(0, .retAddr 156), (1, .int (Int32.ofInt j))] σ (fun x σ' => x = sby39.getD j.toNat 0 ∧ σ' = σ) := by
  obtain ⟨k, rfl⟩ := Int.eq_ofNat_of_zero_le h0
  have h2 : k < 1 := by omega
  match k, h2 with
  | 0, _ => exact ty_of_run (n := 60) (fun h => rfl) ⟨_, rfl, rfl, rfl⟩
def sby40 : List Int := [105]
theorem sln40 {X : mi_X} {d : Nat} {σ : mi_Sg} : ty_Ci X (d + 3) mi_M186 [(0, .retAddr 160)] σ (fun x σ' => x = 1 ∧ σ' = σ) := ty_of_run (n := 40) (fun h => rfl) ⟨_, rfl, rfl, rfl⟩
theorem sat40 {X : mi_X} {d : Nat} {σ : mi_Sg} {j : Int} (h0 : 0 ≤ j) (h1 : j < 1) : ty_Ci X (d + 3) mi_M180 [(0, .retAddr 160), (1, .int (Int32.ofInt j))] σ (fun x σ' => x = sby40.getD j.toNat 0 ∧ σ' = σ) := by
  obtain ⟨k, rfl⟩ := Int.eq_ofNat_of_zero_le h0
  have h2 : k < 1 := by omega
  match k, h2 with
  | 0, _ => exact ty_of_run (n := 60) (fun h => rfl) ⟨_, rfl, rfl, rfl⟩
def sby41 : List Int := [117]
theorem sln41 {X : mi_X} {d : Nat} {σ : mi_Sg} : ty_Ci X (d + 3) mi_M186 [(0, .retAddr 164)] σ (fun x σ' => x = 1 ∧ σ' = σ) := ty_of_run (n := 40) (fun h => rfl) ⟨_, rfl, rfl, rfl⟩
theorem sat41 {X : mi_X} {d : Nat} {σ : mi_Sg} {j : Int} (h0 : 0 ≤ j) (h1 : j < 1) : ty_Ci X (d + 3) mi_M180 [(0, .retAddr 164), (1, .int (Int32.ofInt j))] σ (fun x σ' => x = sby41.getD j.toNat 0 ∧ σ' = σ) := by
  obtain ⟨k, rfl⟩ := Int.eq_ofNat_of_zero_le h0
  have h2 : k < 1 := by omega
  match k, h2 with
  | 0, _ => exact ty_of_run (n := 60) (fun h => rfl) ⟨_, rfl, rfl, rfl⟩
def sby42 : List Int := [32, 100, 101, 102, 32, 119, 32, 58, 32]
theorem sln42 {X : mi_X} {d : Nat} {σ : mi_Sg} : ty_Ci X (d + 3) mi_M186 [(0, .retAddr 168)] σ (fun x σ' => x = 9 ∧ σ' = σ) := ty_of_run (n := 40) (fun h => rfl) ⟨_, rfl, rfl, rfl⟩
theorem sat42 {X : mi_X} {d : Nat} {σ : mi_Sg} {j : Int} (h0 : 0 ≤ j) (h1 : j < 9) : ty_Ci X (d + 3) mi_M180 [(0, .retAddr 168), (1, .int (Int32.ofInt j))] σ (fun x σ' => x = sby42.getD j.toNat 0 ∧ σ' = σ) := by
  obtain ⟨k, rfl⟩ := Int.eq_ofNat_of_zero_le h0
  have h2 : k < 9 := by omega
  match k, h2 with
  | 0, _ => exact ty_of_run (n := 60) (fun h => rfl) ⟨_, rfl, rfl, rfl⟩
  | 1, _ => exact ty_of_run (n := 60) (fun h => rfl) ⟨_, rfl, rfl, rfl⟩
  | 2, _ => exact ty_of_run (n := 60) (fun h => rfl) ⟨_, rfl, rfl, rfl⟩
  | 3, _ => exact ty_of_run (n := 60) (fun h => rfl) ⟨_, rfl, rfl, rfl⟩
  | 4, _ => exact ty_of_run (n := 60) (fun h => rfl) ⟨_, rfl, rfl, rfl⟩
  | 5, _ => exact ty_of_run (n := 60) (fun h => rfl) ⟨_, rfl, rfl, rfl⟩
  | 6, _ => exact ty_of_run (n := 60) (fun h => rfl) ⟨_, rfl, rfl, rfl⟩
  | 7, _ => exact ty_of_run (n := 60) (fun h => rfl) ⟨_, rfl, rfl, rfl⟩
  | 8, _ => exact ty_of_run (n := 60) (fun h => rfl) ⟨_, rfl, rfl, rfl⟩
def sby43 : List Int := [32, 61, 32, 101, 59]
theorem sln43 {X : mi_X} {d : Nat} {σ : mi_Sg} : ty_Ci X (d + 3) mi_M186 [(0, .retAddr 172)] σ (fun x σ' => x = 5 ∧ σ' = σ) := ty_of_run (n := 40) (fun h => rfl) ⟨_, rfl, rfl, rfl⟩
theorem sat43 {X : mi_X} {d : Nat} {σ : mi_Sg} {j : Int} (h0 : 0 ≤ j) (h1 : j < 5) : ty_Ci X (d + 3) mi_M180 [(0, .retAddr 172), (1, .int (Int32.ofInt j))] σ (fun x σ' => x = sby43.getD j.toNat 0 ∧ σ' = σ) := by
  obtain ⟨k, rfl⟩ := Int.eq_ofNat_of_zero_le h0
  have h2 : k < 5 := by omega
  match k, h2 with
  | 0, _ => exact ty_of_run (n := 60) (fun h => rfl) ⟨_, rfl, rfl, rfl⟩
  | 1, _ => exact ty_of_run (n := 60) (fun h => rfl) ⟨_, rfl, rfl, rfl⟩
  | 2, _ => exact ty_of_run (n := 60) (fun h => rfl) ⟨_, rfl, rfl, rfl⟩
  | 3, _ => exact ty_of_run (n := 60) (fun h => rfl) ⟨_, rfl, rfl, rfl⟩
  | 4, _ => exact ty_of_run (n := 60) (fun h => rfl) ⟨_, rfl, rfl, rfl⟩
theorem six40 {X : mi_X} {d : Nat} {σ : mi_Sg} : ty_Ci X (d + 8) mi_M183 [(0, .retAddr 24), (1, .int (Int32.ofInt 40))] σ (fun x σ' => x = 0 ∧ σ' = σ) := ty_of_run (n := 400) (fun h => rfl) ⟨_, rfl, rfl, rfl⟩
theorem six41 {X : mi_X} {d : Nat} {σ : mi_Sg} : ty_Ci X (d + 8) mi_M183 [(0, .retAddr 24), (1, .int (Int32.ofInt 41))] σ (fun x σ' => x = 1 ∧ σ' = σ) := ty_of_run (n := 400) (fun h => rfl) ⟨_, rfl, rfl, rfl⟩
theorem six44 {X : mi_X} {d : Nat} {σ : mi_Sg} : ty_Ci X (d + 8) mi_M183 [(0, .retAddr 24), (1, .int (Int32.ofInt 44))] σ (fun x σ' => x = 2 ∧ σ' = σ) := ty_of_run (n := 400) (fun h => rfl) ⟨_, rfl, rfl, rfl⟩
theorem six59 {X : mi_X} {d : Nat} {σ : mi_Sg} : ty_Ci X (d + 8) mi_M183 [(0, .retAddr 24), (1, .int (Int32.ofInt 59))] σ (fun x σ' => x = 3 ∧ σ' = σ) := ty_of_run (n := 400) (fun h => rfl) ⟨_, rfl, rfl, rfl⟩
theorem six58 {X : mi_X} {d : Nat} {σ : mi_Sg} : ty_Ci X (d + 8) mi_M183 [(0, .retAddr 24), (1, .int (Int32.ofInt 58))] σ (fun x σ' => x = 4 ∧ σ' = σ) := ty_of_run (n := 400) (fun h => rfl) ⟨_, rfl, rfl, rfl⟩
theorem six61 {X : mi_X} {d : Nat} {σ : mi_Sg} : ty_Ci X (d + 8) mi_M183 [(0, .retAddr 24), (1, .int (Int32.ofInt 61))] σ (fun x σ' => x = 5 ∧ σ' = σ) := ty_of_run (n := 400) (fun h => rfl) ⟨_, rfl, rfl, rfl⟩
theorem six42 {X : mi_X} {d : Nat} {σ : mi_Sg} : ty_Ci X (d + 8) mi_M183 [(0, .retAddr 24), (1, .int (Int32.ofInt 42))] σ (fun x σ' => x = 9 ∧ σ' = σ) := ty_of_run (n := 400) (fun h => rfl) ⟨_, rfl, rfl, rfl⟩
def tpx (σ : mi_Sg) : Prop := (0 ≤ mi_sF σ 3 6 ∧ mi_sF σ 3 6 ≤ 1200) ∧ ∀ i, 0 ≤ i → i < mi_sF σ 3 6 → 0 ≤ mi_sA σ 1 i ∧ mi_sA σ 1 i < 128
theorem to_byteOf {X : mi_X} {d : Nat} {σ : mi_Sg} {p : Int} (t : tpx σ) (p0 : 0 ≤ p) (p1 : p < mi_sF σ 3 6) : ty_Ci X d mi_M106 [(0, .ref 3), (1, .int (Int32.ofInt p))] σ (fun x σ' => x = mi_sA σ 1 p ∧ σ' = σ) := by
  intro h S
  have fr := mi_Fm_rf h
  obtain ⟨⟨t0, t1⟩, t2⟩ := t
  obtain ⟨t3, t4⟩ := t2 p p0 p1
  refine mi_wp_p (pc' := 1) (st' := [.int (Int32.ofInt p)]) rfl rfl rfl ?_
  refine mi_s_if1 (t := 25) rfl rfl rfl (by unfold mi_R; omega) (fun hc_ => absurd (show p < 0 from hc_) (by omega)) (fun _ => ?_)
  refine mi_wp_p (pc' := 5) (st' := [.int (Int32.ofInt p)]) rfl rfl rfl ?_
  refine mi_wp_p (pc' := 6) (st' := [.ref 3, .int (Int32.ofInt p)]) rfl rfl rfl ?_
  refine ty_s_gf (x := mi_sF σ 3 6) S rfl rfl rfl (List.mem_of_getElem? (i := 3) rfl) rfl ?_
  refine mi_s_if2 (t := 25) rfl rfl rfl (by unfold mi_R; omega) (by unfold mi_R; omega) (fun hc_ => absurd (show (mi_sF σ 3 6) ≤ p from hc_) (by omega)) (fun _ => ?_)
  refine mi_wp_p (pc' := 13) (st' := [.ref 3]) rfl rfl rfl ?_
  refine ty_s_gr S rfl rfl rfl (List.mem_of_getElem? (i := 10) rfl) ?_
  refine mi_wp_p (pc' := 17) (st' := [.int (Int32.ofInt p), .ref 1]) rfl rfl rfl ?_
  refine ty_s_bld (x := mi_sA σ 1 p) S rfl rfl (List.mem_of_getElem? (i := 0) rfl) (by decide) (Or.inl rfl) (by omega) (by omega) rfl ?_
  refine mi_s_k (pc' := 21) (e := 255) rfl rfl rfl (by decide +kernel) ?_
  refine mi_s_and rfl rfl (by omega) (by omega) ?_
  refine mi_wp_p (pc' := 26) rfl rfl rfl ?_
  exact ty_s_ret S fr rfl rfl rfl (mi_ret_i rfl) ⟨_, rfl, ⟨rfl, rfl⟩⟩
theorem to_byteEnd {X : mi_X} {d : Nat} {σ : mi_Sg} {p : Int} (t : tpx σ) (p0 : 0 ≤ p) (p1 : mi_sF σ 3 6 ≤ p) (p2 : p ≤ 2000) : ty_Ci X d mi_M106 [(0, .ref 3), (1, .int (Int32.ofInt p))] σ (fun x σ' => x = -1 ∧ σ' = σ) := by
  intro h S
  have fr := mi_Fm_rf h
  obtain ⟨⟨t0, t1⟩, t2⟩ := t
  refine mi_wp_p (pc' := 1) (st' := [.int (Int32.ofInt p)]) rfl rfl rfl ?_
  refine mi_s_if1 (t := 25) rfl rfl rfl (by unfold mi_R; omega) (fun hc_ => absurd (show p < 0 from hc_) (by omega)) (fun _ => ?_)
  refine mi_wp_p (pc' := 5) (st' := [.int (Int32.ofInt p)]) rfl rfl rfl ?_
  refine mi_wp_p (pc' := 6) (st' := [.ref 3, .int (Int32.ofInt p)]) rfl rfl rfl ?_
  refine ty_s_gf (x := mi_sF σ 3 6) S rfl rfl rfl (List.mem_of_getElem? (i := 3) rfl) rfl ?_
  refine mi_s_if2 (t := 25) rfl rfl rfl (by unfold mi_R; omega) (by unfold mi_R; omega) (fun _ => ?_) (fun hc_ => absurd (show (mi_sF σ 3 6) ≤ p by omega) hc_)
  refine mi_wp_p (pc' := 26) (st' := [.int (Int32.ofInt (-1))]) rfl rfl rfl ?_
  exact ty_s_ret S fr rfl rfl rfl (mi_ret_i rfl) ⟨_, rfl, ⟨rfl, rfl⟩⟩
theorem to_isSmall1 {X : mi_X} {d : Nat} {σ : mi_Sg} {b : Int} (h0 : 97 ≤ b) (h1 : b ≤ 122) : ty_Ci X d mi_M109 [(0, .int (Int32.ofInt b))] σ (fun x σ' => x = 1 ∧ σ' = σ) := by
  intro h S
  have fr := mi_Fm_rf h
  refine mi_wp_p (pc' := 1) (st' := [.int (Int32.ofInt b)]) rfl rfl rfl ?_
  refine mi_s_k (pc' := 3) (e := 97) rfl rfl rfl (by decide +kernel) ?_
  refine mi_s_if2 (t := 16) rfl rfl rfl (by unfold mi_R; omega) (by unfold mi_R; omega) (fun hc_ => absurd (show b < 97 from hc_) (by omega)) (fun _ => ?_)
  refine mi_wp_p (pc' := 7) (st' := [.int (Int32.ofInt b)]) rfl rfl rfl ?_
  refine mi_s_k (pc' := 9) (e := 122) rfl rfl rfl (by decide +kernel) ?_
  refine mi_s_if2 (t := 16) rfl rfl rfl (by unfold mi_R; omega) (by unfold mi_R; omega) (fun hc_ => absurd (show 122 < b from hc_) (by omega)) (fun _ => ?_)
  refine mi_wp_p (pc' := 13) (st' := [.int (Int32.ofInt 1)]) rfl rfl rfl ?_
  refine mi_wp_p (pc' := 17) rfl rfl rfl ?_
  exact ty_s_ret S fr rfl rfl rfl rfl ⟨_, rfl, ⟨rfl, rfl⟩⟩
theorem to_isSmalla {X : mi_X} {d : Nat} {σ : mi_Sg} {b : Int} (r0 : -1 ≤ b) (r1 : b < 256) (h0 : b < 97) : ty_Ci X d mi_M109 [(0, .int (Int32.ofInt b))] σ (fun x σ' => x = 0 ∧ σ' = σ) := by
  intro h S
  have fr := mi_Fm_rf h
  refine mi_wp_p (pc' := 1) (st' := [.int (Int32.ofInt b)]) rfl rfl rfl ?_
  refine mi_s_k (pc' := 3) (e := 97) rfl rfl rfl (by decide +kernel) ?_
  refine mi_s_if2 (t := 16) rfl rfl rfl (by unfold mi_R; omega) (by unfold mi_R; omega) (fun _ => ?_) (fun hc_ => absurd (show b < 97 by omega) hc_)
  refine mi_wp_p (pc' := 17) (st' := [.int (Int32.ofInt 0)]) rfl rfl rfl ?_
  exact ty_s_ret S fr rfl rfl rfl rfl ⟨_, rfl, ⟨rfl, rfl⟩⟩
theorem to_isSmallb {X : mi_X} {d : Nat} {σ : mi_Sg} {b : Int} (r0 : -1 ≤ b) (r1 : b < 256) (h0 : 122 < b) : ty_Ci X d mi_M109 [(0, .int (Int32.ofInt b))] σ (fun x σ' => x = 0 ∧ σ' = σ) := by
  intro h S
  have fr := mi_Fm_rf h
  refine mi_wp_p (pc' := 1) (st' := [.int (Int32.ofInt b)]) rfl rfl rfl ?_
  refine mi_s_k (pc' := 3) (e := 97) rfl rfl rfl (by decide +kernel) ?_
  refine mi_s_if2 (t := 16) rfl rfl rfl (by unfold mi_R; omega) (by unfold mi_R; omega) (fun hc_ => absurd (show b < 97 from hc_) (by omega)) (fun _ => ?_)
  refine mi_wp_p (pc' := 7) (st' := [.int (Int32.ofInt b)]) rfl rfl rfl ?_
  refine mi_s_k (pc' := 9) (e := 122) rfl rfl rfl (by decide +kernel) ?_
  refine mi_s_if2 (t := 16) rfl rfl rfl (by unfold mi_R; omega) (by unfold mi_R; omega) (fun _ => ?_) (fun hc_ => absurd (show 122 < b by omega) hc_)
  refine mi_wp_p (pc' := 17) (st' := [.int (Int32.ofInt 0)]) rfl rfl rfl ?_
  exact ty_s_ret S fr rfl rfl rfl rfl ⟨_, rfl, ⟨rfl, rfl⟩⟩
theorem to_isSmall0 {X : mi_X} {d : Nat} {σ : mi_Sg} {b : Int} (r0 : -1 ≤ b) (r1 : b < 256) (h0 : b < 97 ∨ 122 < b) : ty_Ci X d mi_M109 [(0, .int (Int32.ofInt b))] σ (fun x σ' => x = 0 ∧ σ' = σ) := h0.elim (fun q => to_isSmalla r0 r1 q) (fun q => to_isSmallb r0 r1 q)
theorem to_isDigit1 {X : mi_X} {d : Nat} {σ : mi_Sg} {b : Int} (h0 : 48 ≤ b) (h1 : b ≤ 57) : ty_Ci X d mi_M107 [(0, .int (Int32.ofInt b))] σ (fun x σ' => x = 1 ∧ σ' = σ) := by
  intro h S
  have fr := mi_Fm_rf h
  refine mi_wp_p (pc' := 1) (st' := [.int (Int32.ofInt b)]) rfl rfl rfl ?_
  refine mi_s_k (pc' := 3) (e := 48) rfl rfl rfl (by decide +kernel) ?_
  refine mi_s_if2 (t := 16) rfl rfl rfl (by unfold mi_R; omega) (by unfold mi_R; omega) (fun hc_ => absurd (show b < 48 from hc_) (by omega)) (fun _ => ?_)
  refine mi_wp_p (pc' := 7) (st' := [.int (Int32.ofInt b)]) rfl rfl rfl ?_
  refine mi_s_k (pc' := 9) (e := 57) rfl rfl rfl (by decide +kernel) ?_
  refine mi_s_if2 (t := 16) rfl rfl rfl (by unfold mi_R; omega) (by unfold mi_R; omega) (fun hc_ => absurd (show 57 < b from hc_) (by omega)) (fun _ => ?_)
  refine mi_wp_p (pc' := 13) (st' := [.int (Int32.ofInt 1)]) rfl rfl rfl ?_
  refine mi_wp_p (pc' := 17) rfl rfl rfl ?_
  exact ty_s_ret S fr rfl rfl rfl rfl ⟨_, rfl, ⟨rfl, rfl⟩⟩
theorem to_isDigita {X : mi_X} {d : Nat} {σ : mi_Sg} {b : Int} (r0 : -1 ≤ b) (r1 : b < 256) (h0 : b < 48) : ty_Ci X d mi_M107 [(0, .int (Int32.ofInt b))] σ (fun x σ' => x = 0 ∧ σ' = σ) := by
  intro h S
  have fr := mi_Fm_rf h
  refine mi_wp_p (pc' := 1) (st' := [.int (Int32.ofInt b)]) rfl rfl rfl ?_
  refine mi_s_k (pc' := 3) (e := 48) rfl rfl rfl (by decide +kernel) ?_
  refine mi_s_if2 (t := 16) rfl rfl rfl (by unfold mi_R; omega) (by unfold mi_R; omega) (fun _ => ?_) (fun hc_ => absurd (show b < 48 by omega) hc_)
  refine mi_wp_p (pc' := 17) (st' := [.int (Int32.ofInt 0)]) rfl rfl rfl ?_
  exact ty_s_ret S fr rfl rfl rfl rfl ⟨_, rfl, ⟨rfl, rfl⟩⟩
theorem to_isDigitb {X : mi_X} {d : Nat} {σ : mi_Sg} {b : Int} (r0 : -1 ≤ b) (r1 : b < 256) (h0 : 57 < b) : ty_Ci X d mi_M107 [(0, .int (Int32.ofInt b))] σ (fun x σ' => x = 0 ∧ σ' = σ) := by
  intro h S
  have fr := mi_Fm_rf h
  refine mi_wp_p (pc' := 1) (st' := [.int (Int32.ofInt b)]) rfl rfl rfl ?_
  refine mi_s_k (pc' := 3) (e := 48) rfl rfl rfl (by decide +kernel) ?_
  refine mi_s_if2 (t := 16) rfl rfl rfl (by unfold mi_R; omega) (by unfold mi_R; omega) (fun hc_ => absurd (show b < 48 from hc_) (by omega)) (fun _ => ?_)
  refine mi_wp_p (pc' := 7) (st' := [.int (Int32.ofInt b)]) rfl rfl rfl ?_
  refine mi_s_k (pc' := 9) (e := 57) rfl rfl rfl (by decide +kernel) ?_
  refine mi_s_if2 (t := 16) rfl rfl rfl (by unfold mi_R; omega) (by unfold mi_R; omega) (fun _ => ?_) (fun hc_ => absurd (show 57 < b by omega) hc_)
  refine mi_wp_p (pc' := 17) (st' := [.int (Int32.ofInt 0)]) rfl rfl rfl ?_
  exact ty_s_ret S fr rfl rfl rfl rfl ⟨_, rfl, ⟨rfl, rfl⟩⟩
theorem to_isDigit0 {X : mi_X} {d : Nat} {σ : mi_Sg} {b : Int} (r0 : -1 ≤ b) (r1 : b < 256) (h0 : b < 48 ∨ 57 < b) : ty_Ci X d mi_M107 [(0, .int (Int32.ofInt b))] σ (fun x σ' => x = 0 ∧ σ' = σ) := h0.elim (fun q => to_isDigita r0 r1 q) (fun q => to_isDigitb r0 r1 q)
theorem to_isGreat1 {X : mi_X} {d : Nat} {σ : mi_Sg} {b : Int} (h0 : 65 ≤ b) (h1 : b ≤ 90) : ty_Ci X d mi_M108 [(0, .int (Int32.ofInt b))] σ (fun x σ' => x = 1 ∧ σ' = σ) := by
  intro h S
  have fr := mi_Fm_rf h
  refine mi_wp_p (pc' := 1) (st' := [.int (Int32.ofInt b)]) rfl rfl rfl ?_
  refine mi_s_k (pc' := 3) (e := 65) rfl rfl rfl (by decide +kernel) ?_
  refine mi_s_if2 (t := 16) rfl rfl rfl (by unfold mi_R; omega) (by unfold mi_R; omega) (fun hc_ => absurd (show b < 65 from hc_) (by omega)) (fun _ => ?_)
  refine mi_wp_p (pc' := 7) (st' := [.int (Int32.ofInt b)]) rfl rfl rfl ?_
  refine mi_s_k (pc' := 9) (e := 90) rfl rfl rfl (by decide +kernel) ?_
  refine mi_s_if2 (t := 16) rfl rfl rfl (by unfold mi_R; omega) (by unfold mi_R; omega) (fun hc_ => absurd (show 90 < b from hc_) (by omega)) (fun _ => ?_)
  refine mi_wp_p (pc' := 13) (st' := [.int (Int32.ofInt 1)]) rfl rfl rfl ?_
  refine mi_wp_p (pc' := 17) rfl rfl rfl ?_
  exact ty_s_ret S fr rfl rfl rfl rfl ⟨_, rfl, ⟨rfl, rfl⟩⟩
theorem to_isGreata {X : mi_X} {d : Nat} {σ : mi_Sg} {b : Int} (r0 : -1 ≤ b) (r1 : b < 256) (h0 : b < 65) : ty_Ci X d mi_M108 [(0, .int (Int32.ofInt b))] σ (fun x σ' => x = 0 ∧ σ' = σ) := by
  intro h S
  have fr := mi_Fm_rf h
  refine mi_wp_p (pc' := 1) (st' := [.int (Int32.ofInt b)]) rfl rfl rfl ?_
  refine mi_s_k (pc' := 3) (e := 65) rfl rfl rfl (by decide +kernel) ?_
  refine mi_s_if2 (t := 16) rfl rfl rfl (by unfold mi_R; omega) (by unfold mi_R; omega) (fun _ => ?_) (fun hc_ => absurd (show b < 65 by omega) hc_)
  refine mi_wp_p (pc' := 17) (st' := [.int (Int32.ofInt 0)]) rfl rfl rfl ?_
  exact ty_s_ret S fr rfl rfl rfl rfl ⟨_, rfl, ⟨rfl, rfl⟩⟩
theorem to_isGreatb {X : mi_X} {d : Nat} {σ : mi_Sg} {b : Int} (r0 : -1 ≤ b) (r1 : b < 256) (h0 : 90 < b) : ty_Ci X d mi_M108 [(0, .int (Int32.ofInt b))] σ (fun x σ' => x = 0 ∧ σ' = σ) := by
  intro h S
  have fr := mi_Fm_rf h
  refine mi_wp_p (pc' := 1) (st' := [.int (Int32.ofInt b)]) rfl rfl rfl ?_
  refine mi_s_k (pc' := 3) (e := 65) rfl rfl rfl (by decide +kernel) ?_
  refine mi_s_if2 (t := 16) rfl rfl rfl (by unfold mi_R; omega) (by unfold mi_R; omega) (fun hc_ => absurd (show b < 65 from hc_) (by omega)) (fun _ => ?_)
  refine mi_wp_p (pc' := 7) (st' := [.int (Int32.ofInt b)]) rfl rfl rfl ?_
  refine mi_s_k (pc' := 9) (e := 90) rfl rfl rfl (by decide +kernel) ?_
  refine mi_s_if2 (t := 16) rfl rfl rfl (by unfold mi_R; omega) (by unfold mi_R; omega) (fun _ => ?_) (fun hc_ => absurd (show 90 < b by omega) hc_)
  refine mi_wp_p (pc' := 17) (st' := [.int (Int32.ofInt 0)]) rfl rfl rfl ?_
  exact ty_s_ret S fr rfl rfl rfl rfl ⟨_, rfl, ⟨rfl, rfl⟩⟩
theorem to_isGreat0 {X : mi_X} {d : Nat} {σ : mi_Sg} {b : Int} (r0 : -1 ≤ b) (r1 : b < 256) (h0 : b < 65 ∨ 90 < b) : ty_Ci X d mi_M108 [(0, .int (Int32.ofInt b))] σ (fun x σ' => x = 0 ∧ σ' = σ) := h0.elim (fun q => to_isGreata r0 r1 q) (fun q => to_isGreatb r0 r1 q)
def tadd (σ : mi_Sg) (k p e : Int) (key : Int64) : mi_Sg := mi_uF (mi_uE (mi_uA (mi_uA (mi_uA σ 5 (mi_sF σ 3 7) k) 6 (mi_sF σ 3 7) p) 7 (mi_sF σ 3 7) (e - 1)) 8 (mi_sF σ 3 7) key) 3 7 (mi_sF σ 3 7 + 1)
theorem to_add {X : mi_X} {d : Nat} {σ : mi_Sg} {k p e : Int} {key : Int64} (n0 : 0 ≤ mi_sF σ 3 7) (n1 : mi_sF σ 3 7 ≤ 300) : ty_Ci X d mi_M105 [(0, .ref 3), (1, .int (Int32.ofInt k)), (2, .int (Int32.ofInt p)), (3, .int (Int32.ofInt e)), (4, .long key)] σ (fun x σ' => x = e ∧ σ' = tadd σ k p e key) := by
  intro h S
  have fr := mi_Fm_rf h
  refine mi_wp_p (pc' := 1) (st' := [.ref 3]) rfl rfl rfl ?_
  refine ty_s_gf (x := mi_sF σ 3 7) S rfl rfl rfl (List.mem_of_getElem? (i := 4) rfl) rfl ?_
  refine mi_s_k (pc' := 7) (e := 300) rfl rfl rfl (by decide +kernel) ?_
  refine mi_s_if2 (t := 63) rfl rfl rfl (by unfold mi_R; omega) (by unfold mi_R; omega) (fun hc_ => absurd (show 300 < (mi_sF σ 3 7) from hc_) (by omega)) (fun _ => ?_)
  refine mi_wp_p (pc' := 11) (st' := [.ref 3]) rfl rfl rfl ?_
  refine ty_s_gr S rfl rfl rfl (List.mem_of_getElem? (i := 12) rfl) ?_
  refine mi_wp_p (pc' := 15) (st' := [.ref 3, .ref 5]) rfl rfl rfl ?_
  refine ty_s_gf (x := mi_sF σ 3 7) S rfl rfl rfl (List.mem_of_getElem? (i := 4) rfl) rfl ?_
  refine mi_wp_p (pc' := 19) (st' := [.int (Int32.ofInt k), .int (Int32.ofInt (mi_sF σ 3 7)), .ref 5]) rfl rfl rfl ?_
  refine ty_s_ast S rfl rfl (List.mem_of_getElem? (i := 1) rfl) (by decide) (by decide) (by omega) (by omega) ?_
  intro h1 S f
  replace fr := mi_Fm_tr fr f
  refine mi_wp_p (pc' := 21) (st' := [.ref 3]) rfl rfl rfl ?_
  refine ty_s_gr S rfl rfl rfl (List.mem_of_getElem? (i := 13) rfl) ?_
  refine mi_wp_p (pc' := 25) (st' := [.ref 3, .ref 6]) rfl rfl rfl ?_
  refine ty_s_gf (x := mi_sF σ 3 7) S rfl rfl rfl (List.mem_of_getElem? (i := 4) rfl) rfl ?_
  refine mi_wp_p (pc' := 29) (st' := [.int (Int32.ofInt p), .int (Int32.ofInt (mi_sF σ 3 7)), .ref 6]) rfl rfl rfl ?_
  refine ty_s_ast S rfl rfl (List.mem_of_getElem? (i := 2) rfl) (by decide) (by decide) (by omega) (by omega) ?_
  intro h2 S f
  replace fr := mi_Fm_tr fr f
  refine mi_wp_p (pc' := 31) (st' := [.ref 3]) rfl rfl rfl ?_
  refine ty_s_gr S rfl rfl rfl (List.mem_of_getElem? (i := 14) rfl) ?_
  refine mi_wp_p (pc' := 35) (st' := [.ref 3, .ref 7]) rfl rfl rfl ?_
  refine ty_s_gf (x := mi_sF σ 3 7) S rfl rfl rfl (List.mem_of_getElem? (i := 4) rfl) rfl ?_
  refine mi_wp_p (pc' := 39) (st' := [.int (Int32.ofInt e), .int (Int32.ofInt (mi_sF σ 3 7)), .ref 7]) rfl rfl rfl ?_
  refine mi_wp_p (pc' := 40) (st' := [.int (Int32.ofInt 1), .int (Int32.ofInt e), .int (Int32.ofInt (mi_sF σ 3 7)), .ref 7]) rfl rfl rfl ?_
  refine mi_s_sub rfl rfl ?_
  refine ty_s_ast S rfl rfl (List.mem_of_getElem? (i := 3) rfl) (by decide) (by decide) (by omega) (by omega) ?_
  intro h3 S f
  replace fr := mi_Fm_tr fr f
  refine mi_wp_p (pc' := 43) (st' := [.ref 3]) rfl rfl rfl ?_
  refine ty_s_gr S rfl rfl rfl (List.mem_of_getElem? (i := 15) rfl) ?_
  refine mi_wp_p (pc' := 47) (st' := [.ref 3, .ref 8]) rfl rfl rfl ?_
  refine ty_s_gf (x := mi_sF σ 3 7) S rfl rfl rfl (List.mem_of_getElem? (i := 4) rfl) rfl ?_
  refine mi_wp_p (pc' := 52) (st' := [.long key, .int (Int32.ofInt (mi_sF σ 3 7)), .ref 8]) rfl rfl rfl ?_
  refine ty_s_lst S rfl rfl (List.mem_of_getElem? (i := 1) rfl) (by decide) (by decide) (by omega) (by omega) ?_
  intro h4 S f
  replace fr := mi_Fm_tr fr f
  refine mi_wp_p (pc' := 54) (st' := [.ref 3]) rfl rfl rfl ?_
  refine mi_wp_p (pc' := 55) (st' := [.ref 3, .ref 3]) rfl rfl rfl ?_
  refine ty_s_gf (x := mi_sF σ 3 7) S rfl rfl rfl (List.mem_of_getElem? (i := 4) rfl) rfl ?_
  refine mi_wp_p (pc' := 59) (st' := [.int (Int32.ofInt 1), .int (Int32.ofInt (mi_sF σ 3 7)), .ref 3]) rfl rfl rfl ?_
  refine mi_s_add rfl rfl ?_
  refine ty_s_pf S rfl rfl rfl (List.mem_of_getElem? (i := 4) rfl) (by decide) mi_fit_int (Or.inl rfl) ?_
  intro h5 S f
  replace fr := mi_Fm_tr fr f
  refine mi_wp_p (pc' := 64) (st' := [.int (Int32.ofInt e)]) rfl rfl rfl ?_
  exact ty_s_ret S fr rfl rfl rfl (mi_ret_i rfl) ⟨_, rfl, ⟨rfl, rfl⟩⟩
theorem to_past_l {X : mi_X} {d : Nat} {h0 : mi_H} {σ : mi_Sg} {p e : Int} (p0 : 0 ≤ p) (t : tpx σ) (hb : ∀ i, p ≤ i → i < e → mi_sA σ 1 i = 32) (he : e ≤ mi_sF σ 3 6) (hn : e < mi_sF σ 3 6 → mi_sA σ 1 e ≠ 32 ∧ mi_sA σ 1 e ≠ 10) : ∀ (m : Nat) (i : Int), (e - i).toNat = m → p ≤ i → i ≤ e → ∀ h, ty_H h σ → mi_Fm h0 h → mi_wp X (d + 1) mi_M114 2 [(2, .int (Int32.ofInt i)), (0, .ref 3), (1, .int (Int32.ofInt p))] [] h 0 0 (fun z => ∃ v h' σ', z = (.inl v, h', 0, 0) ∧ ty_H h' σ' ∧ mi_Fm h0 h' ∧ ∃ x, v = some (.int (Int32.ofInt x)) ∧ x = e ∧ σ' = σ) := by
  intro m
  induction m using Nat.strongRecOn with
  | ind m ih =>
    intro i hm hi0 hi1 h S fr
    have t0 := t.1.1
    have t1 := t.1.2
    by_cases hq : i < e
    · have v := hb i hi0 hq
      refine mi_wp_p (pc' := 3) (st' := [.int (Int32.ofInt i)]) rfl rfl rfl ?_
      refine mi_wp_p (pc' := 4) (st' := [.ref 3, .int (Int32.ofInt i)]) rfl rfl rfl ?_
      refine ty_s_gf (x := mi_sF σ 3 6) S rfl rfl rfl (List.mem_of_getElem? (i := 3) rfl) rfl ?_
      refine mi_s_if2 (t := 36) rfl rfl rfl (by unfold mi_R; omega) (by unfold mi_R; omega) (fun hc_ => absurd (show (mi_sF σ 3 6) ≤ i from hc_) (by omega)) (fun _ => ?_)
      refine mi_wp_p (pc' := 11) (st' := [.ref 3]) rfl rfl rfl ?_
      refine mi_wp_p (pc' := 12) (st' := [.int (Int32.ofInt i), .ref 3]) rfl rfl rfl ?_
      refine ty_s_ci rfl rfl rfl rfl rfl rfl (mi_cal_v2 (np := 1) (args := [.ref 3, .int (Int32.ofInt i)]) (rest := []) rfl rfl rfl rfl rfl (Nat.le_of_ble_eq_true rfl) rfl rfl (Nat.le_of_ble_eq_true rfl) (ty_rcS S (List.mem_of_getElem? (i := 3) rfl))) (Nat.le_of_ble_eq_true rfl) S (to_byteOf t (by omega) (by omega)) ?_
      intro x hh σu S f P
      obtain ⟨e1, e2⟩ := P
      rw [e2] at S
      rw [e1]
      clear e1 e2
      replace fr := mi_Fm_tr fr f
      refine mi_s_k (pc' := 17) (e := 32) rfl rfl rfl (by decide +kernel) ?_
      refine mi_s_if2 (t := 30) rfl rfl rfl (by unfold mi_R; omega) (by unfold mi_R; omega) (fun _ => ?_) (fun hc_ => absurd (show (mi_sA σ 1 i) = 32 by omega) hc_)
      refine mi_s_inc (l' := [(2, .int (Int32.ofInt (i + 1))), (0, .ref 3), (1, .int (Int32.ofInt p))]) rfl rfl rfl (by decide) rfl ?_
      refine mi_wp_p (pc' := 2) rfl rfl rfl ?_
      refine mi_wp_lw (l := [(2, .int (Int32.ofInt (i + 1))), (0, .ref 3), (1, .int (Int32.ofInt p))]) (mi_lw_of (show List.Nodup [2, 0, 1] by decide) ⟨rfl, rfl, rfl, trivial⟩) ?_
      exact ih _ (by omega) (i + 1) rfl (by omega) (by omega) _ S fr
    · obtain rfl : i = e := by omega
      by_cases hz : i < mi_sF σ 3 6
      · obtain ⟨v1, v2⟩ := hn hz
        obtain ⟨v3, v4⟩ := t.2 i (by omega) hz
        refine mi_wp_p (pc' := 3) (st' := [.int (Int32.ofInt i)]) rfl rfl rfl ?_
        refine mi_wp_p (pc' := 4) (st' := [.ref 3, .int (Int32.ofInt i)]) rfl rfl rfl ?_
        refine ty_s_gf (x := mi_sF σ 3 6) S rfl rfl rfl (List.mem_of_getElem? (i := 3) rfl) rfl ?_
        refine mi_s_if2 (t := 36) rfl rfl rfl (by unfold mi_R; omega) (by unfold mi_R; omega) (fun hc_ => absurd (show (mi_sF σ 3 6) ≤ i from hc_) (by omega)) (fun _ => ?_)
        refine mi_wp_p (pc' := 11) (st' := [.ref 3]) rfl rfl rfl ?_
        refine mi_wp_p (pc' := 12) (st' := [.int (Int32.ofInt i), .ref 3]) rfl rfl rfl ?_
        refine ty_s_ci rfl rfl rfl rfl rfl rfl (mi_cal_v2 (np := 1) (args := [.ref 3, .int (Int32.ofInt i)]) (rest := []) rfl rfl rfl rfl rfl (Nat.le_of_ble_eq_true rfl) rfl rfl (Nat.le_of_ble_eq_true rfl) (ty_rcS S (List.mem_of_getElem? (i := 3) rfl))) (Nat.le_of_ble_eq_true rfl) S (to_byteOf t (by omega) (by omega)) ?_
        intro x hh σu S f P
        obtain ⟨e1, e2⟩ := P
        rw [e2] at S
        rw [e1]
        clear e1 e2
        replace fr := mi_Fm_tr fr f
        refine mi_s_k (pc' := 17) (e := 32) rfl rfl rfl (by decide +kernel) ?_
        refine mi_s_if2 (t := 30) rfl rfl rfl (by unfold mi_R; omega) (by unfold mi_R; omega) (fun hc_ => absurd (show (mi_sA σ 1 i) = 32 from hc_) (by omega)) (fun _ => ?_)
        refine mi_wp_p (pc' := 21) (st' := [.ref 3]) rfl rfl rfl ?_
        refine mi_wp_p (pc' := 22) (st' := [.int (Int32.ofInt i), .ref 3]) rfl rfl rfl ?_
        refine ty_s_ci rfl rfl rfl rfl rfl rfl (mi_cal_v2 (np := 1) (args := [.ref 3, .int (Int32.ofInt i)]) (rest := []) rfl rfl rfl rfl rfl (Nat.le_of_ble_eq_true rfl) rfl rfl (Nat.le_of_ble_eq_true rfl) (ty_rcS S (List.mem_of_getElem? (i := 3) rfl))) (Nat.le_of_ble_eq_true rfl) S (to_byteOf t (by omega) (by omega)) ?_
        intro x hh σu S f P
        obtain ⟨e1, e2⟩ := P
        rw [e2] at S
        rw [e1]
        clear e1 e2
        replace fr := mi_Fm_tr fr f
        refine mi_s_k (pc' := 27) (e := 10) rfl rfl rfl (by decide +kernel) ?_
        refine mi_s_if2 (t := 36) rfl rfl rfl (by unfold mi_R; omega) (by unfold mi_R; omega) (fun _ => ?_) (fun hc_ => absurd (show (mi_sA σ 1 i) ≠ 10 by omega) hc_)
        refine mi_wp_p (pc' := 37) (st' := [.int (Int32.ofInt i)]) rfl rfl rfl ?_
        exact ty_s_ret S fr rfl rfl rfl (mi_ret_i rfl) ⟨_, rfl, ⟨rfl, rfl⟩⟩
      · skip
        refine mi_wp_p (pc' := 3) (st' := [.int (Int32.ofInt i)]) rfl rfl rfl ?_
        refine mi_wp_p (pc' := 4) (st' := [.ref 3, .int (Int32.ofInt i)]) rfl rfl rfl ?_
        refine ty_s_gf (x := mi_sF σ 3 6) S rfl rfl rfl (List.mem_of_getElem? (i := 3) rfl) rfl ?_
        refine mi_s_if2 (t := 36) rfl rfl rfl (by unfold mi_R; omega) (by unfold mi_R; omega) (fun _ => ?_) (fun hc_ => absurd (show (mi_sF σ 3 6) ≤ i by omega) hc_)
        refine mi_wp_p (pc' := 37) (st' := [.int (Int32.ofInt i)]) rfl rfl rfl ?_
        exact ty_s_ret S fr rfl rfl rfl (mi_ret_i rfl) ⟨_, rfl, ⟨rfl, rfl⟩⟩
theorem to_past {X : mi_X} {d : Nat} {σ : mi_Sg} {p e : Int} (p0 : 0 ≤ p) (pe : p ≤ e) (t : tpx σ) (hb : ∀ i, p ≤ i → i < e → mi_sA σ 1 i = 32) (he : e ≤ mi_sF σ 3 6) (hn : e < mi_sF σ 3 6 → mi_sA σ 1 e ≠ 32 ∧ mi_sA σ 1 e ≠ 10) : ty_Ci X (d + 1) mi_M114 [(0, .ref 3), (1, .int (Int32.ofInt p))] σ (fun x σ' => x = e ∧ σ' = σ) := by
  intro h S
  have fr := mi_Fm_rf h
  refine mi_wp_p (pc' := 1) (st' := [.int (Int32.ofInt p)]) rfl rfl rfl ?_
  refine mi_wp_p (pc' := 2) (l' := [(2, .int (Int32.ofInt p)), (0, .ref 3), (1, .int (Int32.ofInt p))]) (st' := []) rfl rfl rfl ?_
  refine mi_wp_lw (l := [(2, .int (Int32.ofInt p)), (0, .ref 3), (1, .int (Int32.ofInt p))]) (mi_lw_of (show List.Nodup [2, 0, 1] by decide) ⟨rfl, rfl, rfl, trivial⟩) ?_
  exact to_past_l p0 t hb he hn _ p rfl (by omega) pe h S fr
def kw_P (σ : mi_Sg) (key : Int64) (x : Int) : Prop := ((0 ≤ x ∧ x < 13) ∧ mi_sE σ 4 x = key ∧ ∀ j, 0 ≤ j → j < x → mi_sE σ 4 j ≠ key) ∨ (x = 13 ∧ ∀ j, 0 ≤ j → j < 13 → mi_sE σ 4 j ≠ key)
theorem to_kow_l {X : mi_X} {d : Nat} {h0 : mi_H} {σ : mi_Sg} {key : Int64} : ∀ (m : Nat) (i : Int), (13 - i).toNat = m → 0 ≤ i → i ≤ 13 → (∀ j, 0 ≤ j → j < i → mi_sE σ 4 j ≠ key) → ∀ h, ty_H h σ → mi_Fm h0 h → mi_wp X d mi_M112 2 [(3, .int (Int32.ofInt i)), (0, .ref 3), (1, .long key)] [] h 0 0 (fun z => ∃ v h' σ', z = (.inl v, h', 0, 0) ∧ ty_H h' σ' ∧ mi_Fm h0 h' ∧ ∃ x, v = some (.int (Int32.ofInt x)) ∧ kw_P σ key x ∧ σ' = σ) := by
  intro m
  induction m using Nat.strongRecOn with
  | ind m ih =>
    intro i hm hi0 hi1 J h S fr
    refine mi_wp_p (pc' := 3) (st' := [.int (Int32.ofInt i)]) rfl rfl rfl ?_
    refine mi_s_k (pc' := 5) (e := 13) rfl rfl rfl (by decide +kernel) ?_
    refine mi_s_if2 (t := 27) rfl rfl rfl (by unfold mi_R; omega) (by unfold mi_R; omega) ?_ ?_
    · intro (c1 : 13 ≤ i)
      refine mi_s_k (pc' := 29) (e := 13) rfl rfl rfl (by decide +kernel) ?_
      obtain rfl : i = 13 := by omega
      exact ty_s_ret S fr rfl rfl rfl (mi_ret_i rfl) ⟨_, rfl, Or.inr ⟨rfl, J⟩, rfl⟩
    · intro (c1 : ¬ (13 ≤ i))
      refine mi_wp_p (pc' := 9) (st' := [.ref 3]) rfl rfl rfl ?_
      refine ty_s_gr S rfl rfl rfl (List.mem_of_getElem? (i := 11) rfl) ?_
      refine mi_wp_p (pc' := 13) (st' := [.int (Int32.ofInt i), .ref 4]) rfl rfl rfl ?_
      refine ty_s_lld (x := mi_sE σ 4 i) S rfl rfl (List.mem_of_getElem? (i := 0) rfl) (by decide) (by omega) (by omega) rfl ?_
      refine mi_wp_p (pc' := 15) (st' := [.long key, .long (mi_sE σ 4 i)]) rfl rfl rfl ?_
      refine mi_s_lne (t := 21) rfl rfl rfl rfl rfl ?_ ?_
      · intro (c2 : mi_sE σ 4 i ≠ key)
        refine mi_s_inc (l' := [(3, .int (Int32.ofInt (i + 1))), (0, .ref 3), (1, .long key)]) rfl rfl rfl (by decide) rfl ?_
        refine mi_wp_p (pc' := 2) rfl rfl rfl ?_
        refine mi_wp_lw (l := [(3, .int (Int32.ofInt (i + 1))), (0, .ref 3), (1, .long key)]) (mi_lw_of (show List.Nodup [3, 0, 1] by decide) ⟨rfl, rfl, rfl, trivial⟩) ?_
        refine ih _ (by omega) (i + 1) rfl (by omega) (by omega) (fun j j0 j1 => ?_) _ S fr
        by_cases e : j = i
        · rw [e]; exact c2
        · exact J j j0 (by omega)
      · intro (c2 : mi_sE σ 4 i = key)
        refine mi_wp_p (pc' := 20) (st' := [.int (Int32.ofInt i)]) rfl rfl rfl ?_
        exact ty_s_ret S fr rfl rfl rfl (mi_ret_i rfl) ⟨_, rfl, Or.inl ⟨⟨hi0, by omega⟩, c2, J⟩, rfl⟩
theorem to_kow {X : mi_X} {d : Nat} {σ : mi_Sg} {key : Int64} : ty_Ci X d mi_M112 [(0, .ref 3), (1, .long key)] σ (fun x σ' => kw_P σ key x ∧ σ' = σ) := by
  intro h S
  have fr := mi_Fm_rf h
  refine mi_wp_p (pc' := 1) (st' := [.int (Int32.ofInt 0)]) rfl rfl rfl ?_
  refine mi_wp_p (pc' := 2) (l' := [(3, .int (Int32.ofInt 0)), (0, .ref 3), (1, .long key)]) (st' := []) rfl rfl rfl ?_
  refine mi_wp_lw (l := [(3, .int (Int32.ofInt 0)), (0, .ref 3), (1, .long key)]) (mi_lw_of (show List.Nodup [3, 0, 1] by decide) ⟨rfl, rfl, rfl, trivial⟩) ?_
  exact to_kow_l _ 0 rfl (by omega) (by omega) (fun j a b => by omega) h S fr
