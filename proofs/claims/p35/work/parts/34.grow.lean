/-! a new object beside the world; the world with a find or a claim more -/
section KN
variable {p : Program} {l : Launch} {e : Env} {R : Room} {s : State} {m : MethodId} {args : Array Value} {below : List Frame} {meth : Method} {c : Code} {H : Heap} {locs : List Loc} {cells slots : Nat} {Q : State → Prop}
variable {cc : ByteArray} {pc : Nat} {ls : Array Slot} {rest : List Value} {D : va_G} {cy : Nat → ClassId} {base : Nat → Prop}
theorem kx_new (hexec : p.tables.exec = Jvm.exec) (hb : c.code = cc) {own C : String} {T : u_T} {N ci index : Nat} {Ts : List Cond} (hts : ∀ w ∈ Ts, w.before args s = true) (hin : ∀ w ∈ u_ws C T N, w ∈ Ts) (ty : Nat → FieldType) (hty : ∀ k, k < N → parseFieldDescriptor (T k).2.2.1 = some (ty k)) (hown : s.vm.findClass own = some m.cls) (hcl : (Cond.classLink own index C).before args s = true) (hinst : (Cond.instantiable C N).before args s = true) (hini : (Cond.initialized C).before args s = true)
    (hG : kG D cy base s) (hc : vwCl[ci]? = some (C, T, N)) {fs : List Value} (hfs : ∀ j, j < N → defaultValue (ty j) = vp_V fs j) (hcells : cells + 1 ≤ R.cells) (hslots : slots + N ≤ R.slots) (hS : va_S (kA base) s.heap H locs) (hdg : decode cc pc = .ok (.new index, 3))
    (kk : ∀ (q : Nat) (H1 : Heap), q = H.size → va_P D vwCl [(q, .inr (ci, fs))] H1 → H1.size = H.size + 1 → (∀ q : Nat, q < H.size → H1[q]? = H[q]?) → va_S (kA base) s.heap H1 locs →
      W p l e R s m args below meth c H1 locs (cells + 1) (slots + N) Q (F0 m (pc + 3) ls (.ref q :: rest))) : W p l e R s m args below meth c H locs cells slots Q (F0 m pc ls rest) := by
  have hKn := hG.1.1 ci _ hc
  refine W.newcK hexec hb hown hcl hinst hini rfl hdg hcells hslots hKn.2.1 rfl fun H1 kC hkC e1 z1 o1 => ?_
  refine kk H.size H1 rfl (fun k x hx => ?_) z1 o1 ⟨Nat.le_trans hS.1 (by omega), fun x h1 h2 => (o1 x (Nat.lt_of_lt_of_le h1 hS.1)).trans (hS.2.1 x h1 h2), hS.2.2⟩
  have hz : k < 1 := (List.getElem?_eq_some_iff.mp hx).1
  rw [show k = 0 by omega] at hx
  cases hx
  exact ⟨_, hc, (u_born ty hts hin hKn hkC e1 hty).to hfs⟩
end KN
/-- an int row's class is the one that all of them have -/
theorem kG.int {D : va_G} {cy : Nat → ClassId} {base : Nat → Prop} {s : State} {tys : List (ClassId × FieldType)} {k : Nat} {cA : ClassId} (hG : kG D cy base s) (h : va_K D vwCl tys s) (hk : tys[k]? = some (cA, .int)) : cA = cy 0 := by
  have h1 : s.vm.findClass ("[" ++ FieldType.int.toString) = some cA := (h.2 k _ hk).2
  have h2 : s.vm.findClass ("[" ++ FieldType.int.toString) = some (cy 0) := (hG.1.2 0 (cy 0, .int) rfl).2
  exact Option.some.inj (h1.symm.trans h2)
def ad3 (ad : Nat → Nat) (n a b c : Nat) : Nat → Nat := fun k => if k = 100 + 3 * n then a else if k = 100 + 3 * n + 1 then b else if k = 100 + 3 * n + 2 then c else ad k
theorem ad3_o {ad : Nat → Nat} {n a b c k : Nat} (h : k < 100 + 3 * n ∨ 100 + 3 * n + 2 < k) : ad3 ad n a b c k = ad k := by
  unfold ad3
  rw [if_neg (by omega), if_neg (by omega), if_neg (by omega)]
def gF (g : sg) (n : Nat) (row : Nat → Int32) : sg := fun k j => if k = 100 + 3 * n then row j else if k = 100 + 3 * n + 1 then 0 else if k = 100 + 3 * n + 2 then 0 else g k j
theorem gF_o {g : sg} {n k : Nat} {row : Nat → Int32} (h : k < 100 + 3 * n ∨ 100 + 3 * n + 2 < k) : gF g n row k = g k := by
  funext j
  unfold gF
  rw [if_neg (by omega), if_neg (by omega), if_neg (by omega)]
theorem kC_grow {cy : Nat → ClassId} {ad : Nat → Nat} {n nc a b c : Nat} {g : sg} {row : Nat → Int32} (h6 : ¬ g 6 n = 1) (hn : n < 30) {k : Nat} (hk : k < 100 + 3 * n ∨ 200 ≤ k) : kC cy (ad3 ad n a b c) (n + 1) nc (gF g n row) k = kC cy ad n nc g k := by
  have hg : gF g n row k = g k := gF_o (by omega)
  rw [kC_row hg]
  unfold kC
  by_cases h1 : k < 100
  · rw [if_pos h1, if_pos h1]
    have eL : fL (ad3 ad n a b c) g = fL ad g := by
      funext j
      unfold fL
      by_cases q : j < 8
      · rw [if_pos q, if_pos q, ad3_o (by omega)]
      · rw [if_neg q, if_neg q]
    have e6 : (fun j => if g 6 j = 1 then some (ad3 ad n a b c (100 + 3 * j)) else none) = (fun j => if g 6 j = 1 then some (ad (100 + 3 * j)) else none) := by
      funext j
      by_cases q : g 6 j = 1
      · rw [if_pos q, if_pos q, ad3_o]
        have : j ≠ n := fun e => h6 (e ▸ q)
        omega
      · rw [if_neg q, if_neg q]
    have e7 : (fun j => if g 7 j = 1 then some (ad3 ad n a b c (200 + j)) else none) = (fun j => if g 7 j = 1 then some (ad (200 + j)) else none) := by
      funext j
      rw [ad3_o (by omega)]
    rw [eL, e6, e7]
  · rw [if_neg h1, if_neg h1]
    by_cases h2 : k < 200
    · rw [if_pos h2, if_pos h2]
      have h3 : k < 100 + 3 * n := by omega
      rw [if_pos h3, if_pos (by omega)]
      by_cases h4 : (k - 100) % 3 = 0
      · rw [if_pos h4, if_pos h4]
        have eF : fF (ad3 ad n a b c) g k = fF ad g k := by
          funext j
          unfold fF
          rw [ad3_o (by omega), ad3_o (by omega)]
        rw [eF]
      · rw [if_neg h4, if_neg h4]
    · rw [if_neg h2, if_neg h2]
theorem kW.addF {D : va_G} {cy : Nat → ClassId} {base : Nat → Prop} {ad : Nat → Nat} {n nc a b c : Nat} {g : sg} {row : Nat → Int32} {H H1 : Heap} (h : kW D cy base ad n nc g H) (hn : n < 30) (h6 : ¬ g 6 n = 1) (hq : ∀ q : Nat, q < H.size → H1[q]? = H[q]?) (hbs : ∀ q : Nat, H.size ≤ q → base q)
    (ha : kAt D a (.inr (1, fF (ad3 ad n a b c) (gF g n row) (100 + 3 * n))) H1) (hb : kAt D b (kInts (cy 0) 12 (fun _ => 0)) H1) (hc : kAt D c (kInts (cy 0) 12 (fun _ => 0)) H1) (za : H.size ≤ a) (zb : H.size ≤ b) (zc : H.size ≤ c) (ab : a ≠ b) (ac : a ≠ c) (bc : b ≠ c) : kW D cy base (ad3 ad n a b c) (n + 1) nc (gF g n row) H1 := by
  have old : ∀ k e, (k < 100 + 3 * n ∨ 200 ≤ k) → kC cy (ad3 ad n a b c) (n + 1) nc (gF g n row) k = some e → kC cy ad n nc g k = some e ∧ ad3 ad n a b c k = ad k := by
    intro k e hk he
    rw [kC_grow h6 hn hk] at he
    exact ⟨he, ad3_o (by omega)⟩
  have new : ∀ k e, ¬ (k < 100 + 3 * n ∨ 200 ≤ k) → kC cy (ad3 ad n a b c) (n + 1) nc (gF g n row) k = some e → k = 100 + 3 * n ∨ k = 100 + 3 * n + 1 ∨ k = 100 + 3 * n + 2 := by
    intro k e hk he
    unfold kC at he
    rw [if_neg (by omega), if_pos (by omega)] at he
    by_cases z : k < 100 + 3 * (n + 1)
    · omega
    · rw [if_neg z] at he; cases he
  have ea : ad3 ad n a b c (100 + 3 * n) = a := if_pos rfl
  have eb : ad3 ad n a b c (100 + 3 * n + 1) = b := by unfold ad3; rw [if_neg (by omega), if_pos rfl]
  have ec : ad3 ad n a b c (100 + 3 * n + 2) = c := by unfold ad3; rw [if_neg (by omega), if_neg (by omega), if_pos rfl]
  have r1 : gF g n row (100 + 3 * n + 1) = fun _ => 0 := by funext j; unfold gF; rw [if_neg (by omega), if_pos rfl]
  have r2 : gF g n row (100 + 3 * n + 2) = fun _ => 0 := by funext j; unfold gF; rw [if_neg (by omega), if_neg (by omega), if_pos rfl]
  have low : ∀ k e, kC cy ad n nc g k = some e → ad k < H.size := fun k e he => (h.1 k e he).1.lt
  refine ⟨fun k e he => ?_, fun j k ej ek hj hk hjk => ?_, by omega, h.2.2.2⟩
  · by_cases hk : k < 100 + 3 * n ∨ 200 ≤ k
    · obtain ⟨h1, h2⟩ := old k e hk he
      rw [h2]
      exact ⟨(h.1 k e h1).1.kept (hq _ (low k e h1)), (h.1 k e h1).2⟩
    · rcases new k e hk he with rfl | rfl | rfl
      · rw [kC_F (by omega) (by omega)] at he
        cases he
        rw [ea]
        exact ⟨ha, hbs _ za⟩
      · rw [kC_F1 (by omega) (by omega), r1] at he
        cases he
        rw [eb]
        exact ⟨hb, hbs _ zb⟩
      · rw [kC_F2 (by omega) (by omega), r2] at he
        cases he
        rw [ec]
        exact ⟨hc, hbs _ zc⟩
  · by_cases aj : j < 100 + 3 * n ∨ 200 ≤ j
    · obtain ⟨h1, h2⟩ := old j ej aj hj
      have l1 := low j ej h1
      by_cases ak : k < 100 + 3 * n ∨ 200 ≤ k
      · obtain ⟨h3, h4⟩ := old k ek ak hk
        exact h.2.1 j k ej ek h1 h3 (by rw [← h2, ← h4]; exact hjk)
      · rw [h2] at hjk
        rcases new k ek ak hk with rfl | rfl | rfl
        · rw [ea] at hjk; omega
        · rw [eb] at hjk; omega
        · rw [ec] at hjk; omega
    · by_cases ak : k < 100 + 3 * n ∨ 200 ≤ k
      · obtain ⟨h3, h4⟩ := old k ek ak hk
        have l1 := low k ek h3
        rw [h4] at hjk
        rcases new j ej aj hj with rfl | rfl | rfl
        · rw [ea] at hjk; omega
        · rw [eb] at hjk; omega
        · rw [ec] at hjk; omega
      · rcases new j ej aj hj with rfl | rfl | rfl <;> rcases new k ek ak hk with rfl | rfl | rfl <;> first | rfl | (simp only [ea, eb, ec] at hjk; omega)
def ad1 (ad : Nat → Nat) (nc a : Nat) : Nat → Nat := fun k => if k = 200 + nc then a else ad k
def gC (g : sg) (nc : Nat) (row : Nat → Int32) : sg := fun k j => if k = 200 + nc then row j else g k j
theorem ad1_o {ad : Nat → Nat} {nc a k : Nat} (h : k ≠ 200 + nc) : ad1 ad nc a k = ad k := if_neg h
theorem gC_o {g : sg} {nc k : Nat} {row : Nat → Int32} (h : k ≠ 200 + nc) : gC g nc row k = g k := by
  funext j
  exact if_neg h
theorem kC_growC {cy : Nat → ClassId} {ad : Nat → Nat} {n nc a : Nat} {g : sg} {row : Nat → Int32} (h6 : ∀ j, g 6 j = 1 → j < 30) (h7 : ¬ g 7 nc = 1) (hn : n ≤ 30) {k : Nat} (hk : k ≠ 200 + nc) : kC cy (ad1 ad nc a) n (nc + 1) (gC g nc row) k = kC cy ad n nc g k := by
  have hg : gC g nc row k = g k := gC_o hk
  rw [kC_row hg]
  unfold kC
  by_cases h1 : k < 100
  · rw [if_pos h1, if_pos h1]
    have eL : fL (ad1 ad nc a) g = fL ad g := by
      funext j
      unfold fL
      by_cases q : j < 8
      · rw [if_pos q, if_pos q, ad1_o (by omega)]
      · rw [if_neg q, if_neg q]
    have e6 : (fun j => if g 6 j = 1 then some (ad1 ad nc a (100 + 3 * j)) else none) = (fun j => if g 6 j = 1 then some (ad (100 + 3 * j)) else none) := by
      funext j
      by_cases q : g 6 j = 1
      · rw [if_pos q, if_pos q, ad1_o]
        have := h6 j q
        omega
      · rw [if_neg q, if_neg q]
    have e7 : (fun j => if g 7 j = 1 then some (ad1 ad nc a (200 + j)) else none) = (fun j => if g 7 j = 1 then some (ad (200 + j)) else none) := by
      funext j
      by_cases q : g 7 j = 1
      · rw [if_pos q, if_pos q, ad1_o]
        have : j ≠ nc := fun e => h7 (e ▸ q)
        omega
      · rw [if_neg q, if_neg q]
    rw [eL, e6, e7]
  · rw [if_neg h1, if_neg h1]
    by_cases h2 : k < 200
    · rw [if_pos h2, if_pos h2]
      by_cases h3 : k < 100 + 3 * n
      · rw [if_pos h3, if_pos h3]
        by_cases h4 : (k - 100) % 3 = 0
        · rw [if_pos h4, if_pos h4]
          have eF : fF (ad1 ad nc a) g k = fF ad g k := by
            funext j
            unfold fF
            rw [ad1_o (by omega), ad1_o (by omega)]
          rw [eF]
        · rw [if_neg h4, if_neg h4]
      · rw [if_neg h3, if_neg h3]
    · rw [if_neg h2, if_neg h2]
      by_cases h3 : k < 200 + nc
      · rw [if_pos h3, if_pos (by omega)]
      · rw [if_neg h3, if_neg (by omega)]
theorem kW.addC {D : va_G} {cy : Nat → ClassId} {base : Nat → Prop} {ad : Nat → Nat} {n nc a : Nat} {g : sg} {row : Nat → Int32} {H H1 : Heap} (h : kW D cy base ad n nc g H) (hnc : nc < 20) (h6 : ∀ j, g 6 j = 1 → j < 30) (h7 : ¬ g 7 nc = 1) (hq : ∀ q : Nat, q < H.size → H1[q]? = H[q]?) (hbs : ∀ q : Nat, H.size ≤ q → base q)
    (ha : kAt D a (.inr (0, fC (gC g nc row) (200 + nc))) H1) (za : H.size ≤ a) : kW D cy base (ad1 ad nc a) n (nc + 1) (gC g nc row) H1 := by
  have ea : ad1 ad nc a (200 + nc) = a := if_pos rfl
  have low : ∀ k e, kC cy ad n nc g k = some e → ad k < H.size := fun k e he => (h.1 k e he).1.lt
  refine ⟨fun k e he => ?_, fun j k ej ek hj hk hjk => ?_, h.2.2.1, by omega⟩
  · by_cases hk : k = 200 + nc
    · subst hk
      rw [kC_C (by omega)] at he
      cases he
      rw [ea]
      exact ⟨ha, hbs _ za⟩
    · rw [kC_growC h6 h7 h.2.2.1 hk] at he
      rw [ad1_o hk]
      exact ⟨(h.1 k e he).1.kept (hq _ (low k e he)), (h.1 k e he).2⟩
  · by_cases aj : j = 200 + nc
    · by_cases ak : k = 200 + nc
      · rw [aj, ak]
      · rw [kC_growC h6 h7 h.2.2.1 ak] at hk
        have := low k ek hk
        rw [aj, ea, ad1_o ak] at hjk
        omega
    · rw [kC_growC h6 h7 h.2.2.1 aj] at hj
      have := low j ej hj
      by_cases ak : k = 200 + nc
      · rw [ak, ea, ad1_o aj] at hjk
        omega
      · rw [kC_growC h6 h7 h.2.2.1 ak] at hk
        rw [ad1_o aj, ad1_o ak] at hjk
        exact h.2.1 j k ej ek hj hk hjk
def rowF (kind place day secret value words : Int32) : Nat → Int32 := fun j => if j = 0 then kind else if j = 1 then place else if j = 2 then day else if j = 3 then secret else if j = 4 then value else if j = 8 then words else if j = 10 then -1 else 0
def cFind0 (g : sg) (n : Nat) (kind place dago set secret value : Int32) : sg := sU (gF g n (rowF kind place (g 0 10 - dago) secret value set)) (100 + 3 * n) 11 (g 0 10 + (if kind = 7 then 1 else g 4 kind.toNatClampNeg))
def cFind (g : sg) (n : Nat) (kind place dago set secret value room : Int32) : sg := sU (sU (cComes (cFind0 g n kind place dago set secret value) n room (g 0 10)) 6 n 1) 0 8 (nI n + 1)
def rowC (num kind place fr to words : Int32) : Nat → Int32 := fun j => if j = 0 then num else if j = 1 then kind else if j = 2 then place else if j = 3 then fr else if j = 4 then to else if j = 5 then words else if j = 8 then -1 else 0
def cClaim (g : sg) (nc : Nat) (kind place fr to set : Int32) : sg := sU (sU (gC g nc (rowC (nI nc) kind place fr to set)) 7 nc 1) 0 9 (nI nc + 1)
theorem gF_n (g : sg) (n : Nat) (row : Nat → Int32) : gF g n row (100 + 3 * n) = row := by
  funext j
  unfold gF
  rw [if_pos rfl]
theorem gC_n (g : sg) (nc : Nat) (row : Nat → Int32) : gC g nc row (200 + nc) = row := by
  funext j
  unfold gC
  rw [if_pos rfl]
theorem ad3_a (ad : Nat → Nat) (n a b c : Nat) : ad3 ad n a b c (100 + 3 * n) = a := if_pos rfl
theorem ad3_b (ad : Nat → Nat) (n a b c : Nat) : ad3 ad n a b c (100 + 3 * n + 1) = b := by
  unfold ad3
  rw [if_neg (by omega), if_pos rfl]
theorem ad3_c (ad : Nat → Nat) (n a b c : Nat) : ad3 ad n a b c (100 + 3 * n + 2) = c := by
  unfold ad3
  rw [if_neg (by omega), if_neg (by omega), if_pos rfl]
theorem born_A {base q sz x : Nat} {e : va_E} (h : va_A [(q, e)] sz x) (h1 : base ≤ q) (h2 : base ≤ sz) : base ≤ x := by
  rcases h with ⟨k, e', h⟩ | h
  · have hk : k < 1 := (List.getElem?_eq_some_iff.mp h).1
    rw [show k = 0 by omega] at h
    cases h
    exact h1
  · exact Nat.le_trans h2 h
theorem va_D1 (q : Nat) (e : va_E) : va_D (fun _ => True) [(q, e)] := by
  refine ⟨fun i j p r hi hj _ => ?_, fun _ _ _ => trivial⟩
  have h1 : i < 1 := (List.getElem?_eq_some_iff.mp hi).1
  have h2 : j < 1 := (List.getElem?_eq_some_iff.mp hj).1
  omega
theorem kW.bornF {D : va_G} {cy : Nat → ClassId} {base : Nat → Prop} {ad : Nat → Nat} {n nc : Nat} {g : sg} {H H2 H3 : Heap} (h : kW D cy base ad n nc g H) (hn : n < 30) (h6 : ¬ g 6 n = 1) (hbs : ∀ q : Nat, H.size ≤ q → base q) {q q1 q2 : Nat} {fs0 : List Value} (hq : q = H.size) (hz : H2.size = H.size + 1) (ho : ∀ x : Nat, x < H.size → H2[x]? = H[x]?) (hk : ∀ x : Nat, x < H2.size → ¬ va_A [(q, .inr (1, fs0))] H2.size x → H3[x]? = H2[x]?) {kind place day secret value words : Int32}
    (hP : va_P D vwCl [(q, .inr (1, [.int kind, .int place, .int day, .int secret, .int value, .ref q1, .ref q2, .int (0 : Int32), .int words, .int (0 : Int32), .int (-1 : Int32), .int (0 : Int32), .int (0 : Int32), .int (0 : Int32), .int (0 : Int32)])), (q1, .inl (cy 0, 12, .inl (fun _ => 0))), (q2, .inl (cy 0, 12, .inl (fun _ => 0)))] H3)
    (hD : va_D (va_A [(q, .inr (1, fs0))] H2.size) [(q, .inr (1, [.int kind, .int place, .int day, .int secret, .int value, .ref q1, .ref q2, .int (0 : Int32), .int words, .int (0 : Int32), .int (-1 : Int32), .int (0 : Int32), .int (0 : Int32), .int (0 : Int32), .int (0 : Int32)])), (q1, .inl (cy 0, 12, .inl (fun _ => 0))), (q2, .inl (cy 0, 12, .inl (fun _ => 0)))]) : kW D cy base (ad3 ad n q q1 q2) (n + 1) nc (gF g n (rowF kind place day secret value words)) H3 := by
  have na : ∀ x : Nat, x < H.size → ¬ va_A [(q, .inr (1, fs0))] H2.size x := by
    intro x hx h9
    have h8 : H.size ≤ x := born_A (base := H.size) h9 (by omega) (by omega)
    omega
  have old : ∀ x : Nat, x < H.size → H3[x]? = H[x]? := fun x hx => (hk x (by omega) (na x hx)).trans (ho x hx)
  have z1 : H.size ≤ q1 := born_A (base := H.size) (hD.2 1 _ rfl) (by omega) (by omega)
  have z2 : H.size ≤ q2 := born_A (base := H.size) (hD.2 2 _ rfl) (by omega) (by omega)
  have n01 : q ≠ q1 := fun e => absurd (hD.1 0 1 _ _ rfl rfl e) (by decide)
  have n02 : q ≠ q2 := fun e => absurd (hD.1 0 2 _ _ rfl rfl e) (by decide)
  have n12 : q1 ≠ q2 := fun e => absurd (hD.1 1 2 _ _ rfl rfl e) (by decide)
  refine h.addF hn h6 old hbs ?_ (hP 1 _ rfl) (hP 2 _ rfl) (by omega) z1 z2 n01 n02 n12
  obtain ⟨r, hr, h9⟩ := hP 0 _ rfl
  cases hr
  refine ⟨_, rfl, h9.to (fun i hi => ?_)⟩
  have hi : i < 15 := hi
  have hf : ∀ i, fF (ad3 ad n q q1 q2) (gF g n (rowF kind place day secret value words)) (100 + 3 * n) i = if i = 5 then .ref q1 else if i = 6 then .ref q2 else .int (rowF kind place day secret value words i) := by
    intro i
    unfold fF
    rw [ad3_b, ad3_c, gF_n]
  show vp_V [.int kind, .int place, .int day, .int secret, .int value, .ref q1, .ref q2, .int (0 : Int32), .int words, .int (0 : Int32), .int (-1 : Int32), .int (0 : Int32), .int (0 : Int32), .int (0 : Int32), .int (0 : Int32)] i = fF (ad3 ad n q q1 q2) (gF g n (rowF kind place day secret value words)) (100 + 3 * n) i
  rw [hf]
  rcases (show i = 0 ∨ i = 1 ∨ i = 2 ∨ i = 3 ∨ i = 4 ∨ i = 5 ∨ i = 6 ∨ i = 7 ∨ i = 8 ∨ i = 9 ∨ i = 10 ∨ i = 11 ∨ i = 12 ∨ i = 13 ∨ i = 14 by omega) with rfl | rfl | rfl | rfl | rfl | rfl | rfl | rfl | rfl | rfl | rfl | rfl | rfl | rfl | rfl <;> rfl
theorem kW.bornC {D : va_G} {cy : Nat → ClassId} {base : Nat → Prop} {ad : Nat → Nat} {n nc : Nat} {g : sg} {H H2 H3 : Heap} (h : kW D cy base ad n nc g H) (hn : nc < 20) (h6 : ∀ j, g 6 j = 1 → j < 30) (h7 : ¬ g 7 nc = 1) (hbs : ∀ q : Nat, H.size ≤ q → base q) {q : Nat} {fs0 : List Value} (hq : q = H.size) (hz : H2.size = H.size + 1) (ho : ∀ x : Nat, x < H.size → H2[x]? = H[x]?) (hk : ∀ x : Nat, x < H2.size → ¬ va_A [(q, .inr (0, fs0))] H2.size x → H3[x]? = H2[x]?) {num kind place fr to words : Int32}
    (hP : va_P D vwCl [(q, .inr (0, [.int num, .int kind, .int place, .int fr, .int to, .int words, .int (0 : Int32), .int (0 : Int32), .int (-1 : Int32), .int (0 : Int32)]))] H3) : kW D cy base (ad1 ad nc q) n (nc + 1) (gC g nc (rowC num kind place fr to words)) H3 := by
  have na : ∀ x : Nat, x < H.size → ¬ va_A [(q, .inr (0, fs0))] H2.size x := by
    intro x hx h9
    have h8 : H.size ≤ x := born_A (base := H.size) h9 (by omega) (by omega)
    omega
  have old : ∀ x : Nat, x < H.size → H3[x]? = H[x]? := fun x hx => (hk x (by omega) (na x hx)).trans (ho x hx)
  refine h.addC hn h6 h7 old hbs ?_ (by omega)
  obtain ⟨r, hr, h9⟩ := hP 0 _ rfl
  cases hr
  refine ⟨_, rfl, h9.to (fun i hi => ?_)⟩
  have hi : i < 10 := hi
  unfold fC
  rw [gC_n]
  rcases (show i = 0 ∨ i = 1 ∨ i = 2 ∨ i = 3 ∨ i = 4 ∨ i = 5 ∨ i = 6 ∨ i = 7 ∨ i = 8 ∨ i = 9 by omega) with rfl | rfl | rfl | rfl | rfl | rfl | rfl | rfl | rfl | rfl <;> rfl

theorem sU_ne {g : sg} {k j k' j' : Nat} {v : Int32} (h : ¬ (k' = k ∧ j' = j)) : sU g k j v k' j' = g k' j' := if_neg h
