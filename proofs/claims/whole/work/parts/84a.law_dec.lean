theorem bind_run {ε α β : Type} {r : Reader ε α} {f : α → Reader ε β} {c : ByteArray} {p : Nat} {a : α} {s : Nat} (h : r c p = .ok (a, s)) : (r >>= f) c p = f a c s := by
  show StateT.bind (r c) (fun a => f a c) p = _
  unfold StateT.bind
  rw [h]; rfl
theorem map_run {ε α β : Type} {r : Reader ε α} {f : α → β} {c : ByteArray} {p : Nat} {a : α} {s : Nat} (h : r c p = .ok (a, s)) : (f <$> r) c p = .ok (f a, s) := by
  show StateT.map f (r c) p = _
  unfold StateT.map
  rw [h]; rfl
theorem u1_run {c : ByteArray} {p : Nat} {b : UInt8} {l : List UInt8} (h : c.data.toList.drop p = b :: l) : (Reader.u1 : Decoder Nat) c p = .ok (b.toNat, p + 1) := by
  have hlt : p < c.data.toList.length := by
    rcases Nat.lt_or_ge p c.data.toList.length with q | q
    · exact q
    · rw [List.drop_eq_nil_of_le q] at h; cases h
  have hs : p < c.size := by simpa using hlt
  have hb : c[p] = b := by
    have h1 := List.drop_eq_getElem_cons hlt
    rw [h] at h1
    exact (List.cons.inj h1).1.symm
  have e : (Reader.u1 : Decoder Nat) = (fun c p => if h : p < c.size then (.ok (c[p].toNat, p + 1) : Except DecodeError (Nat × Nat)) else .error (HasTruncated.truncated p)) := by
    funext c p
    show (Reader.u1 : Decoder Nat) c p = _
    unfold Reader.u1
    by_cases h : p < c.size
    · rw [dif_pos h]
      refine (bind_run (r := (read : Decoder ByteArray)) (a := c) (s := p) rfl).trans ((bind_run (r := (get : Decoder Nat)) (a := p) (s := p) rfl).trans ?_)
      simp only [dif_pos h]; rfl
    · rw [dif_neg h]
      refine (bind_run (r := (read : Decoder ByteArray)) (a := c) (s := p) rfl).trans ((bind_run (r := (get : Decoder Nat)) (a := p) (s := p) rfl).trans ?_)
      simp only [dif_neg h]; rfl
  rw [e]; show (if h : p < c.size then (.ok (c[p].toNat, p + 1) : Except DecodeError (Nat × Nat)) else _) = _
  rw [dif_pos hs, hb]
theorem drop_s {c : List UInt8} {p : Nat} {b : UInt8} {l : List UInt8} (h : c.drop p = b :: l) : c.drop (p + 1) = l := by
  rw [← List.drop_drop, h]; rfl
theorem u2_run {c : ByteArray} {p : Nat} {b d : UInt8} {l : List UInt8} (h : c.data.toList.drop p = b :: d :: l) : (Reader.u2 : Decoder Nat) c p = .ok (b.toNat * 256 + d.toNat, p + 2) :=
  (bind_run (u1_run h)).trans ((bind_run (u1_run (drop_s h))).trans rfl)
theorem s1_run {c : ByteArray} {p : Nat} {b : UInt8} {l : List UInt8} (h : c.data.toList.drop p = b :: l) : (Reader.s1 : Decoder Int) c p = .ok (Reader.signed 8 b.toNat, p + 1) := by
  exact map_run (u1_run h)
theorem s2_run {c : ByteArray} {p : Nat} {b d : UInt8} {l : List UInt8} (h : c.data.toList.drop p = b :: d :: l) : (Reader.s2 : Decoder Int) c p = .ok (Reader.signed 16 (b.toNat * 256 + d.toNat), p + 2) := by
  exact map_run (u2_run h)
def ld1 (k : Nat) : Option Instr := if k = 2 then some (.iconst (-1)) else if k = 3 then some (.iconst 0) else if k = 4 then some (.iconst 1) else if k = 5 then some (.iconst 2) else if k = 6 then some (.iconst 3) else if k = 7 then some (.iconst 4) else if k = 8 then some (.iconst 5) else if k = 9 then some (.lconst 0) else if k = 10 then some (.lconst 1) else if k = 42 then some (.aload_n 0) else if k = 43 then some (.aload_n 1) else if k = 44 then some (.aload_n 2) else if k = 45 then some (.aload_n 3) else if k = 46 then some (.iaload) else if k = 47 then some (.laload) else if k = 75 then some (.astore_n 0) else if k = 76 then some (.astore_n 1) else if k = 77 then some (.astore_n 2) else if k = 78 then some (.astore_n 3) else if k = 89 then some (.dup) else if k = 96 then some (.iadd) else if k = 100 then some (.isub) else if k = 126 then some (.iand) else if k = 133 then some (.i2l) else if k = 148 then some (.lcmp) else if k = 151 then some (.dcmp .l) else if k = 172 then some (.ireturn) else if k = 190 then some (.arraylength) else none
def ld2 (k a : Nat) : Option Instr := if k = 16 then some (.bipush (Reader.signed 8 a)) else if k = 21 then some (.iload a) else if k = 24 then some (.dload a) else if k = 54 then some (.istore a) else if k = 57 then some (.dstore a) else none
def ld3 (k a : Nat) : Option Instr := if k = 153 then some (.ifCond .eq (Reader.signed 16 a)) else if k = 154 then some (.ifCond .ne (Reader.signed 16 a)) else if k = 155 then some (.ifCond .lt (Reader.signed 16 a)) else if k = 156 then some (.ifCond .ge (Reader.signed 16 a)) else if k = 157 then some (.ifCond .gt (Reader.signed 16 a)) else if k = 158 then some (.ifCond .le (Reader.signed 16 a)) else if k = 159 then some (.if_icmp .eq (Reader.signed 16 a)) else if k = 160 then some (.if_icmp .ne (Reader.signed 16 a)) else if k = 161 then some (.if_icmp .lt (Reader.signed 16 a)) else if k = 162 then some (.if_icmp .ge (Reader.signed 16 a)) else if k = 163 then some (.if_icmp .gt (Reader.signed 16 a)) else if k = 164 then some (.if_icmp .le (Reader.signed 16 a)) else if k = 167 then some (.goto (Reader.signed 16 a)) else if k = 182 then some (.invokevirtual a) else if k = 183 then some (.invokespecial a) else if k = 184 then some (.invokestatic a) else if k = 187 then some (.new a) else none
theorem ldi_2 {c : ByteArray} {p q s : Nat} (h : (Reader.u1 : Decoder Nat) c p = .ok (2, s)) : Decoder.instr q c p = .ok (.iconst (-1), s) := bind_run h
theorem ldi_3 {c : ByteArray} {p q s : Nat} (h : (Reader.u1 : Decoder Nat) c p = .ok (3, s)) : Decoder.instr q c p = .ok (.iconst 0, s) := bind_run h
theorem ldi_4 {c : ByteArray} {p q s : Nat} (h : (Reader.u1 : Decoder Nat) c p = .ok (4, s)) : Decoder.instr q c p = .ok (.iconst 1, s) := bind_run h
theorem ldi_5 {c : ByteArray} {p q s : Nat} (h : (Reader.u1 : Decoder Nat) c p = .ok (5, s)) : Decoder.instr q c p = .ok (.iconst 2, s) := bind_run h
theorem ldi_6 {c : ByteArray} {p q s : Nat} (h : (Reader.u1 : Decoder Nat) c p = .ok (6, s)) : Decoder.instr q c p = .ok (.iconst 3, s) := bind_run h
theorem ldi_7 {c : ByteArray} {p q s : Nat} (h : (Reader.u1 : Decoder Nat) c p = .ok (7, s)) : Decoder.instr q c p = .ok (.iconst 4, s) := bind_run h
theorem ldi_8 {c : ByteArray} {p q s : Nat} (h : (Reader.u1 : Decoder Nat) c p = .ok (8, s)) : Decoder.instr q c p = .ok (.iconst 5, s) := bind_run h
theorem ldi_9 {c : ByteArray} {p q s : Nat} (h : (Reader.u1 : Decoder Nat) c p = .ok (9, s)) : Decoder.instr q c p = .ok (.lconst 0, s) := bind_run h
theorem ldi_10 {c : ByteArray} {p q s : Nat} (h : (Reader.u1 : Decoder Nat) c p = .ok (10, s)) : Decoder.instr q c p = .ok (.lconst 1, s) := bind_run h
theorem ldi_42 {c : ByteArray} {p q s : Nat} (h : (Reader.u1 : Decoder Nat) c p = .ok (42, s)) : Decoder.instr q c p = .ok (.aload_n 0, s) := bind_run h
theorem ldi_43 {c : ByteArray} {p q s : Nat} (h : (Reader.u1 : Decoder Nat) c p = .ok (43, s)) : Decoder.instr q c p = .ok (.aload_n 1, s) := bind_run h
theorem ldi_44 {c : ByteArray} {p q s : Nat} (h : (Reader.u1 : Decoder Nat) c p = .ok (44, s)) : Decoder.instr q c p = .ok (.aload_n 2, s) := bind_run h
theorem ldi_45 {c : ByteArray} {p q s : Nat} (h : (Reader.u1 : Decoder Nat) c p = .ok (45, s)) : Decoder.instr q c p = .ok (.aload_n 3, s) := bind_run h
theorem ldi_46 {c : ByteArray} {p q s : Nat} (h : (Reader.u1 : Decoder Nat) c p = .ok (46, s)) : Decoder.instr q c p = .ok (.iaload, s) := bind_run h
theorem ldi_47 {c : ByteArray} {p q s : Nat} (h : (Reader.u1 : Decoder Nat) c p = .ok (47, s)) : Decoder.instr q c p = .ok (.laload, s) := bind_run h
theorem ldi_75 {c : ByteArray} {p q s : Nat} (h : (Reader.u1 : Decoder Nat) c p = .ok (75, s)) : Decoder.instr q c p = .ok (.astore_n 0, s) := bind_run h
theorem ldi_76 {c : ByteArray} {p q s : Nat} (h : (Reader.u1 : Decoder Nat) c p = .ok (76, s)) : Decoder.instr q c p = .ok (.astore_n 1, s) := bind_run h
theorem ldi_77 {c : ByteArray} {p q s : Nat} (h : (Reader.u1 : Decoder Nat) c p = .ok (77, s)) : Decoder.instr q c p = .ok (.astore_n 2, s) := bind_run h
theorem ldi_78 {c : ByteArray} {p q s : Nat} (h : (Reader.u1 : Decoder Nat) c p = .ok (78, s)) : Decoder.instr q c p = .ok (.astore_n 3, s) := bind_run h
theorem ldi_89 {c : ByteArray} {p q s : Nat} (h : (Reader.u1 : Decoder Nat) c p = .ok (89, s)) : Decoder.instr q c p = .ok (.dup, s) := bind_run h
theorem ldi_96 {c : ByteArray} {p q s : Nat} (h : (Reader.u1 : Decoder Nat) c p = .ok (96, s)) : Decoder.instr q c p = .ok (.iadd, s) := bind_run h
theorem ldi_100 {c : ByteArray} {p q s : Nat} (h : (Reader.u1 : Decoder Nat) c p = .ok (100, s)) : Decoder.instr q c p = .ok (.isub, s) := bind_run h
theorem ldi_126 {c : ByteArray} {p q s : Nat} (h : (Reader.u1 : Decoder Nat) c p = .ok (126, s)) : Decoder.instr q c p = .ok (.iand, s) := bind_run h
theorem ldi_133 {c : ByteArray} {p q s : Nat} (h : (Reader.u1 : Decoder Nat) c p = .ok (133, s)) : Decoder.instr q c p = .ok (.i2l, s) := bind_run h
theorem ldi_148 {c : ByteArray} {p q s : Nat} (h : (Reader.u1 : Decoder Nat) c p = .ok (148, s)) : Decoder.instr q c p = .ok (.lcmp, s) := bind_run h
theorem ldi_151 {c : ByteArray} {p q s : Nat} (h : (Reader.u1 : Decoder Nat) c p = .ok (151, s)) : Decoder.instr q c p = .ok (.dcmp .l, s) := bind_run h
theorem ldi_172 {c : ByteArray} {p q s : Nat} (h : (Reader.u1 : Decoder Nat) c p = .ok (172, s)) : Decoder.instr q c p = .ok (.ireturn, s) := bind_run h
theorem ldi_190 {c : ByteArray} {p q s : Nat} (h : (Reader.u1 : Decoder Nat) c p = .ok (190, s)) : Decoder.instr q c p = .ok (.arraylength, s) := bind_run h
theorem ldi_16 {c : ByteArray} {p q s : Nat} {a : Int} {e : Nat} (h : (Reader.u1 : Decoder Nat) c p = .ok (16, s)) (g : (Reader.s1 : Decoder Int) c s = .ok (a, e)) : Decoder.instr q c p = .ok (.bipush a, e) := (bind_run h).trans (bind_run g)
theorem ldi_21 {c : ByteArray} {p q s : Nat} {a : Nat} {e : Nat} (h : (Reader.u1 : Decoder Nat) c p = .ok (21, s)) (g : (Reader.u1 : Decoder Nat) c s = .ok (a, e)) : Decoder.instr q c p = .ok (.iload a, e) := (bind_run h).trans (bind_run g)
theorem ldi_24 {c : ByteArray} {p q s : Nat} {a : Nat} {e : Nat} (h : (Reader.u1 : Decoder Nat) c p = .ok (24, s)) (g : (Reader.u1 : Decoder Nat) c s = .ok (a, e)) : Decoder.instr q c p = .ok (.dload a, e) := (bind_run h).trans (bind_run g)
theorem ldi_54 {c : ByteArray} {p q s : Nat} {a : Nat} {e : Nat} (h : (Reader.u1 : Decoder Nat) c p = .ok (54, s)) (g : (Reader.u1 : Decoder Nat) c s = .ok (a, e)) : Decoder.instr q c p = .ok (.istore a, e) := (bind_run h).trans (bind_run g)
theorem ldi_57 {c : ByteArray} {p q s : Nat} {a : Nat} {e : Nat} (h : (Reader.u1 : Decoder Nat) c p = .ok (57, s)) (g : (Reader.u1 : Decoder Nat) c s = .ok (a, e)) : Decoder.instr q c p = .ok (.dstore a, e) := (bind_run h).trans (bind_run g)
theorem ldi_153 {c : ByteArray} {p q s : Nat} {a : Int} {e : Nat} (h : (Reader.u1 : Decoder Nat) c p = .ok (153, s)) (g : (Reader.s2 : Decoder Int) c s = .ok (a, e)) : Decoder.instr q c p = .ok (.ifCond .eq a, e) := (bind_run h).trans (bind_run g)
theorem ldi_154 {c : ByteArray} {p q s : Nat} {a : Int} {e : Nat} (h : (Reader.u1 : Decoder Nat) c p = .ok (154, s)) (g : (Reader.s2 : Decoder Int) c s = .ok (a, e)) : Decoder.instr q c p = .ok (.ifCond .ne a, e) := (bind_run h).trans (bind_run g)
theorem ldi_155 {c : ByteArray} {p q s : Nat} {a : Int} {e : Nat} (h : (Reader.u1 : Decoder Nat) c p = .ok (155, s)) (g : (Reader.s2 : Decoder Int) c s = .ok (a, e)) : Decoder.instr q c p = .ok (.ifCond .lt a, e) := (bind_run h).trans (bind_run g)
theorem ldi_156 {c : ByteArray} {p q s : Nat} {a : Int} {e : Nat} (h : (Reader.u1 : Decoder Nat) c p = .ok (156, s)) (g : (Reader.s2 : Decoder Int) c s = .ok (a, e)) : Decoder.instr q c p = .ok (.ifCond .ge a, e) := (bind_run h).trans (bind_run g)
theorem ldi_157 {c : ByteArray} {p q s : Nat} {a : Int} {e : Nat} (h : (Reader.u1 : Decoder Nat) c p = .ok (157, s)) (g : (Reader.s2 : Decoder Int) c s = .ok (a, e)) : Decoder.instr q c p = .ok (.ifCond .gt a, e) := (bind_run h).trans (bind_run g)
theorem ldi_158 {c : ByteArray} {p q s : Nat} {a : Int} {e : Nat} (h : (Reader.u1 : Decoder Nat) c p = .ok (158, s)) (g : (Reader.s2 : Decoder Int) c s = .ok (a, e)) : Decoder.instr q c p = .ok (.ifCond .le a, e) := (bind_run h).trans (bind_run g)
theorem ldi_159 {c : ByteArray} {p q s : Nat} {a : Int} {e : Nat} (h : (Reader.u1 : Decoder Nat) c p = .ok (159, s)) (g : (Reader.s2 : Decoder Int) c s = .ok (a, e)) : Decoder.instr q c p = .ok (.if_icmp .eq a, e) := (bind_run h).trans (bind_run g)
theorem ldi_160 {c : ByteArray} {p q s : Nat} {a : Int} {e : Nat} (h : (Reader.u1 : Decoder Nat) c p = .ok (160, s)) (g : (Reader.s2 : Decoder Int) c s = .ok (a, e)) : Decoder.instr q c p = .ok (.if_icmp .ne a, e) := (bind_run h).trans (bind_run g)
theorem ldi_161 {c : ByteArray} {p q s : Nat} {a : Int} {e : Nat} (h : (Reader.u1 : Decoder Nat) c p = .ok (161, s)) (g : (Reader.s2 : Decoder Int) c s = .ok (a, e)) : Decoder.instr q c p = .ok (.if_icmp .lt a, e) := (bind_run h).trans (bind_run g)
theorem ldi_162 {c : ByteArray} {p q s : Nat} {a : Int} {e : Nat} (h : (Reader.u1 : Decoder Nat) c p = .ok (162, s)) (g : (Reader.s2 : Decoder Int) c s = .ok (a, e)) : Decoder.instr q c p = .ok (.if_icmp .ge a, e) := (bind_run h).trans (bind_run g)
theorem ldi_163 {c : ByteArray} {p q s : Nat} {a : Int} {e : Nat} (h : (Reader.u1 : Decoder Nat) c p = .ok (163, s)) (g : (Reader.s2 : Decoder Int) c s = .ok (a, e)) : Decoder.instr q c p = .ok (.if_icmp .gt a, e) := (bind_run h).trans (bind_run g)
theorem ldi_164 {c : ByteArray} {p q s : Nat} {a : Int} {e : Nat} (h : (Reader.u1 : Decoder Nat) c p = .ok (164, s)) (g : (Reader.s2 : Decoder Int) c s = .ok (a, e)) : Decoder.instr q c p = .ok (.if_icmp .le a, e) := (bind_run h).trans (bind_run g)
theorem ldi_167 {c : ByteArray} {p q s : Nat} {a : Int} {e : Nat} (h : (Reader.u1 : Decoder Nat) c p = .ok (167, s)) (g : (Reader.s2 : Decoder Int) c s = .ok (a, e)) : Decoder.instr q c p = .ok (.goto a, e) := (bind_run h).trans (bind_run g)
theorem ldi_182 {c : ByteArray} {p q s : Nat} {a : Nat} {e : Nat} (h : (Reader.u1 : Decoder Nat) c p = .ok (182, s)) (g : (Reader.u2 : Decoder Nat) c s = .ok (a, e)) : Decoder.instr q c p = .ok (.invokevirtual a, e) := (bind_run h).trans (bind_run g)
theorem ldi_183 {c : ByteArray} {p q s : Nat} {a : Nat} {e : Nat} (h : (Reader.u1 : Decoder Nat) c p = .ok (183, s)) (g : (Reader.u2 : Decoder Nat) c s = .ok (a, e)) : Decoder.instr q c p = .ok (.invokespecial a, e) := (bind_run h).trans (bind_run g)
theorem ldi_184 {c : ByteArray} {p q s : Nat} {a : Nat} {e : Nat} (h : (Reader.u1 : Decoder Nat) c p = .ok (184, s)) (g : (Reader.u2 : Decoder Nat) c s = .ok (a, e)) : Decoder.instr q c p = .ok (.invokestatic a, e) := (bind_run h).trans (bind_run g)
theorem ldi_187 {c : ByteArray} {p q s : Nat} {a : Nat} {e : Nat} (h : (Reader.u1 : Decoder Nat) c p = .ok (187, s)) (g : (Reader.u2 : Decoder Nat) c s = .ok (a, e)) : Decoder.instr q c p = .ok (.new a, e) := (bind_run h).trans (bind_run g)
theorem ld1_ok {c : ByteArray} {p q : Nat} {k : UInt8} {i : Instr} {l : List UInt8} (hd : c.data.toList.drop p = k :: l) (h : ld1 k.toNat = some i) : Decoder.instr q c p = .ok (i, p + 1) := by
  unfold ld1 at h
  by_cases hk : k.toNat = 2
  · rw [if_pos hk] at h; cases h; exact ldi_2 (hk ▸ u1_run hd)
  rw [if_neg hk] at h
  by_cases hk : k.toNat = 3
  · rw [if_pos hk] at h; cases h; exact ldi_3 (hk ▸ u1_run hd)
  rw [if_neg hk] at h
  by_cases hk : k.toNat = 4
  · rw [if_pos hk] at h; cases h; exact ldi_4 (hk ▸ u1_run hd)
  rw [if_neg hk] at h
  by_cases hk : k.toNat = 5
  · rw [if_pos hk] at h; cases h; exact ldi_5 (hk ▸ u1_run hd)
  rw [if_neg hk] at h
  by_cases hk : k.toNat = 6
  · rw [if_pos hk] at h; cases h; exact ldi_6 (hk ▸ u1_run hd)
  rw [if_neg hk] at h
  by_cases hk : k.toNat = 7
  · rw [if_pos hk] at h; cases h; exact ldi_7 (hk ▸ u1_run hd)
  rw [if_neg hk] at h
  by_cases hk : k.toNat = 8
  · rw [if_pos hk] at h; cases h; exact ldi_8 (hk ▸ u1_run hd)
  rw [if_neg hk] at h
  by_cases hk : k.toNat = 9
  · rw [if_pos hk] at h; cases h; exact ldi_9 (hk ▸ u1_run hd)
  rw [if_neg hk] at h
  by_cases hk : k.toNat = 10
  · rw [if_pos hk] at h; cases h; exact ldi_10 (hk ▸ u1_run hd)
  rw [if_neg hk] at h
  by_cases hk : k.toNat = 42
  · rw [if_pos hk] at h; cases h; exact ldi_42 (hk ▸ u1_run hd)
  rw [if_neg hk] at h
  by_cases hk : k.toNat = 43
  · rw [if_pos hk] at h; cases h; exact ldi_43 (hk ▸ u1_run hd)
  rw [if_neg hk] at h
  by_cases hk : k.toNat = 44
  · rw [if_pos hk] at h; cases h; exact ldi_44 (hk ▸ u1_run hd)
  rw [if_neg hk] at h
  by_cases hk : k.toNat = 45
  · rw [if_pos hk] at h; cases h; exact ldi_45 (hk ▸ u1_run hd)
  rw [if_neg hk] at h
  by_cases hk : k.toNat = 46
  · rw [if_pos hk] at h; cases h; exact ldi_46 (hk ▸ u1_run hd)
  rw [if_neg hk] at h
  by_cases hk : k.toNat = 47
  · rw [if_pos hk] at h; cases h; exact ldi_47 (hk ▸ u1_run hd)
  rw [if_neg hk] at h
  by_cases hk : k.toNat = 75
  · rw [if_pos hk] at h; cases h; exact ldi_75 (hk ▸ u1_run hd)
  rw [if_neg hk] at h
  by_cases hk : k.toNat = 76
  · rw [if_pos hk] at h; cases h; exact ldi_76 (hk ▸ u1_run hd)
  rw [if_neg hk] at h
  by_cases hk : k.toNat = 77
  · rw [if_pos hk] at h; cases h; exact ldi_77 (hk ▸ u1_run hd)
  rw [if_neg hk] at h
  by_cases hk : k.toNat = 78
  · rw [if_pos hk] at h; cases h; exact ldi_78 (hk ▸ u1_run hd)
  rw [if_neg hk] at h
  by_cases hk : k.toNat = 89
  · rw [if_pos hk] at h; cases h; exact ldi_89 (hk ▸ u1_run hd)
  rw [if_neg hk] at h
  by_cases hk : k.toNat = 96
  · rw [if_pos hk] at h; cases h; exact ldi_96 (hk ▸ u1_run hd)
  rw [if_neg hk] at h
  by_cases hk : k.toNat = 100
  · rw [if_pos hk] at h; cases h; exact ldi_100 (hk ▸ u1_run hd)
  rw [if_neg hk] at h
  by_cases hk : k.toNat = 126
  · rw [if_pos hk] at h; cases h; exact ldi_126 (hk ▸ u1_run hd)
  rw [if_neg hk] at h
  by_cases hk : k.toNat = 133
  · rw [if_pos hk] at h; cases h; exact ldi_133 (hk ▸ u1_run hd)
  rw [if_neg hk] at h
  by_cases hk : k.toNat = 148
  · rw [if_pos hk] at h; cases h; exact ldi_148 (hk ▸ u1_run hd)
  rw [if_neg hk] at h
  by_cases hk : k.toNat = 151
  · rw [if_pos hk] at h; cases h; exact ldi_151 (hk ▸ u1_run hd)
  rw [if_neg hk] at h
  by_cases hk : k.toNat = 172
  · rw [if_pos hk] at h; cases h; exact ldi_172 (hk ▸ u1_run hd)
  rw [if_neg hk] at h
  by_cases hk : k.toNat = 190
  · rw [if_pos hk] at h; cases h; exact ldi_190 (hk ▸ u1_run hd)
  rw [if_neg hk] at h
  cases h
theorem ld2_ok {c : ByteArray} {p q : Nat} {k : UInt8} {i : Instr} {b : UInt8} {l : List UInt8} (hd : c.data.toList.drop p = k :: b :: l) (h : ld2 k.toNat b.toNat = some i) : Decoder.instr q c p = .ok (i, p + 2) := by
  unfold ld2 at h
  by_cases hk : k.toNat = 16
  · rw [if_pos hk] at h; cases h; exact ldi_16 (hk ▸ u1_run hd) (s1_run (drop_s hd))
  rw [if_neg hk] at h
  by_cases hk : k.toNat = 21
  · rw [if_pos hk] at h; cases h; exact ldi_21 (hk ▸ u1_run hd) (u1_run (drop_s hd))
  rw [if_neg hk] at h
  by_cases hk : k.toNat = 24
  · rw [if_pos hk] at h; cases h; exact ldi_24 (hk ▸ u1_run hd) (u1_run (drop_s hd))
  rw [if_neg hk] at h
  by_cases hk : k.toNat = 54
  · rw [if_pos hk] at h; cases h; exact ldi_54 (hk ▸ u1_run hd) (u1_run (drop_s hd))
  rw [if_neg hk] at h
  by_cases hk : k.toNat = 57
  · rw [if_pos hk] at h; cases h; exact ldi_57 (hk ▸ u1_run hd) (u1_run (drop_s hd))
  rw [if_neg hk] at h
  cases h
theorem ld3_ok {c : ByteArray} {p q : Nat} {k : UInt8} {i : Instr} {b d : UInt8} {l : List UInt8} (hd : c.data.toList.drop p = k :: b :: d :: l) (h : ld3 k.toNat (b.toNat * 256 + d.toNat) = some i) : Decoder.instr q c p = .ok (i, p + 3) := by
  unfold ld3 at h
  by_cases hk : k.toNat = 153
  · rw [if_pos hk] at h; cases h; exact ldi_153 (hk ▸ u1_run hd) (s2_run (drop_s hd))
  rw [if_neg hk] at h
  by_cases hk : k.toNat = 154
  · rw [if_pos hk] at h; cases h; exact ldi_154 (hk ▸ u1_run hd) (s2_run (drop_s hd))
  rw [if_neg hk] at h
  by_cases hk : k.toNat = 155
  · rw [if_pos hk] at h; cases h; exact ldi_155 (hk ▸ u1_run hd) (s2_run (drop_s hd))
  rw [if_neg hk] at h
  by_cases hk : k.toNat = 156
  · rw [if_pos hk] at h; cases h; exact ldi_156 (hk ▸ u1_run hd) (s2_run (drop_s hd))
  rw [if_neg hk] at h
  by_cases hk : k.toNat = 157
  · rw [if_pos hk] at h; cases h; exact ldi_157 (hk ▸ u1_run hd) (s2_run (drop_s hd))
  rw [if_neg hk] at h
  by_cases hk : k.toNat = 158
  · rw [if_pos hk] at h; cases h; exact ldi_158 (hk ▸ u1_run hd) (s2_run (drop_s hd))
  rw [if_neg hk] at h
  by_cases hk : k.toNat = 159
  · rw [if_pos hk] at h; cases h; exact ldi_159 (hk ▸ u1_run hd) (s2_run (drop_s hd))
  rw [if_neg hk] at h
  by_cases hk : k.toNat = 160
  · rw [if_pos hk] at h; cases h; exact ldi_160 (hk ▸ u1_run hd) (s2_run (drop_s hd))
  rw [if_neg hk] at h
  by_cases hk : k.toNat = 161
  · rw [if_pos hk] at h; cases h; exact ldi_161 (hk ▸ u1_run hd) (s2_run (drop_s hd))
  rw [if_neg hk] at h
  by_cases hk : k.toNat = 162
  · rw [if_pos hk] at h; cases h; exact ldi_162 (hk ▸ u1_run hd) (s2_run (drop_s hd))
  rw [if_neg hk] at h
  by_cases hk : k.toNat = 163
  · rw [if_pos hk] at h; cases h; exact ldi_163 (hk ▸ u1_run hd) (s2_run (drop_s hd))
  rw [if_neg hk] at h
  by_cases hk : k.toNat = 164
  · rw [if_pos hk] at h; cases h; exact ldi_164 (hk ▸ u1_run hd) (s2_run (drop_s hd))
  rw [if_neg hk] at h
  by_cases hk : k.toNat = 167
  · rw [if_pos hk] at h; cases h; exact ldi_167 (hk ▸ u1_run hd) (s2_run (drop_s hd))
  rw [if_neg hk] at h
  by_cases hk : k.toNat = 182
  · rw [if_pos hk] at h; cases h; exact ldi_182 (hk ▸ u1_run hd) (u2_run (drop_s hd))
  rw [if_neg hk] at h
  by_cases hk : k.toNat = 183
  · rw [if_pos hk] at h; cases h; exact ldi_183 (hk ▸ u1_run hd) (u2_run (drop_s hd))
  rw [if_neg hk] at h
  by_cases hk : k.toNat = 184
  · rw [if_pos hk] at h; cases h; exact ldi_184 (hk ▸ u1_run hd) (u2_run (drop_s hd))
  rw [if_neg hk] at h
  by_cases hk : k.toNat = 187
  · rw [if_pos hk] at h; cases h; exact ldi_187 (hk ▸ u1_run hd) (u2_run (drop_s hd))
  rw [if_neg hk] at h
  cases h
def ldk (k : Nat) (l : List UInt8) : Option (Instr × Nat) :=
  match ld1 k with
  | some i => some (i, 1)
  | none => match l with
    | [] => none
    | b :: l => match ld2 k b.toNat with
      | some i => some (i, 2)
      | none => match l with
        | [] => none
        | d :: _ => match ld3 k (b.toNat * 256 + d.toNat) with
          | some i => some (i, 3)
          | none => none
theorem dec_of {c : ByteArray} {p n : Nat} {i : Instr} (h : Decoder.instr p c p = .ok (i, p + n)) : decode c p = .ok (i, n) := by
  show Except.bind (Decoder.instr p c p) _ = _
  rw [h]; show Except.ok (i, p + n - p) = _; rw [Nat.add_sub_cancel_left]
theorem ldk_ok {c : ByteArray} {p : Nat} {k : UInt8} {l : List UInt8} {r : Instr × Nat} (hd : c.data.toList.drop p = k :: l) (h : ldk k.toNat l = some r) : decode c p = .ok r := by
  unfold ldk at h
  split at h
  · rename_i i e; cases h; exact dec_of (ld1_ok hd e)
  · split at h
    · cases h
    · rename_i b l2
      split at h
      · rename_i i e; cases h; exact dec_of (ld2_ok hd e)
      · split at h
        · cases h
        · rename_i d l3
          split at h
          · rename_i i e; cases h; exact dec_of (ld3_ok hd e)
          · cases h
def ldg : List UInt8 → Nat → Nat → List (Nat × (Instr × Nat)) → Bool
  | _, _, _, [] => true
  | [], _, _, _ :: _ => false
  | _ :: l, k + 1, p, t => ldg l k (p + 1) t
  | b :: l, 0, p, r :: t => (p == r.1) && (decide (ldk b.toNat l = some r.2) && ldg l (r.2.2 - 1) (p + 1) t)
theorem ldg_ok {c : ByteArray} : ∀ (l : List UInt8) (k p : Nat) (t : List (Nat × (Instr × Nat))), c.data.toList.drop p = l → ldg l k p t = true → ∀ q ∈ t, decode c q.1 = .ok q.2 := by
  intro l
  induction l with
  | nil =>
    intro k p t hd h q hq
    cases t with
    | nil => cases hq
    | cons r t => simp [ldg] at h
  | cons b l ih =>
    intro k p t hd h q hq
    cases t with
    | nil => cases hq
    | cons r t =>
      cases k with
      | succ k => exact ih k (p + 1) (r :: t) (drop_s hd) (by simpa [ldg] using h) q hq
      | zero =>
        simp only [ldg, Bool.and_eq_true, beq_iff_eq, decide_eq_true_eq] at h
        cases hq with
        | head => rw [← h.1]; exact ldk_ok hd h.2.1
        | tail _ hq => exact ih _ (p + 1) t (drop_s hd) h.2.2 q hq
theorem dLx {t : List (Nat × (Instr × Nat))} {p : Nat} (h : ldg (cL_law.data.toList.drop p) 0 p t = true) {i : Nat} {q : Nat × (Instr × Nat)} (hq : t[i]? = some q) : decode cL_law q.1 = .ok q.2 := ldg_ok _ _ _ _ rfl h q (List.mem_of_getElem? hq)
