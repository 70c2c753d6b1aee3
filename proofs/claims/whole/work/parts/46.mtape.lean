/-! ===== the reference: rows, refusals, the tape ===== -/
def mrf (K : HI) (k : Nat) : HI := up K 84 k (w32 (K 84 k + 1))
theorem spm_refuses {K : HI} {Q : Option AV → HI → Prop} {k : Nat} (hk : k < 6) (kq : Q (some (aI (-1))) (mrf K k)) : Rj MX12_refuses 0 [aR 57, aI (k : Int)] K Q := by
  refine rj_of okX12_refuses (Nat.le_of_ble_eq_true rfl) rfl ?_
  refine b_aload_n rfl rfl ?_
  refine b_getR (r := 84) rfl fl12_153 rfl (by decide) rfl rfl ?_
  refine b_iload_n rfl rfl ?_
  refine b_dup2 rfl rfl rfl ?_
  refine b_iald rfl rfl (by omega) (by omega) ?_
  try simp only [tn6, tn4, tn2, tn144, tn24, tn_cast, Int.reduceToNat]
  refine b_iconst rfl (by decide) ?_
  refine b_iadd rfl ?_
  refine b_iast rfl rfl (by omega) (by omega) ?_
  try simp only [tn6, tn4, tn2, tn144, tn24, tn_cast, Int.reduceToNat]
  refine b_iconst rfl (by decide) ?_
  refine b_iret rfl rfl ?_
  exact kq
def RRw (J K : HI) : Prop := (K 57 63 = J 44 10 ∧ 0 ≤ J 44 10 ∧ J 44 10 ≤ 6 ∧ ∀ k : Nat, (k : Int) < J 44 10 → K 94 k = J 46 k) ∧ (K 57 66 = J 44 11 ∧ 0 ≤ J 44 11 ∧ J 44 11 ≤ 6 ∧ ∀ k : Nat, (k : Int) < J 44 11 → K 96 k = J 48 k)
theorem spm_stowed {J K : HI} {Q : Option AV → HI → Prop} {k : Int} (h : RRw J K) (kq : Q (some (aI (if 0 ≤ k ∧ k < J 44 10 then J 46 k.toNat else -1))) K) : Rj MX12_stowed 1 [aR 57, aI k] K Q := by
  obtain ⟨⟨h1, h2, h3, h4⟩, -⟩ := h
  refine rj_of okX12_stowed (Nat.le_of_ble_eq_true rfl) rfl ?_
  refine b_iload_n rfl rfl ?_
  refine b_iconst rfl (by decide) ?_
  refine b_aload_n rfl rfl ?_
  refine b_getI rfl fl12_204 rfl (by decide) rfl ?_
  rw [h1]
  refine b_iconst rfl (by decide) ?_
  refine b_isubN rfl (by omega) (by omega) ?_
  refine b_callS3i (ν := MX12_is) rfl ml12_322 csX12_is (d' := 0) (by omega) (Nat.le_of_ble_eq_true rfl) ?_
  refine spm_is (fun hy => ?_) (fun hn => ?_)
  · refine ⟨_, rfl, ?_⟩
    refine b_if_eq (tgt := 23) rfl rfl (fun z => absurd z (by decide)) (fun _ => ?_)
    refine b_aload_n rfl rfl ?_
    refine b_getR (r := 94) rfl fl12_207 rfl (by decide) rfl rfl ?_
    refine b_iload_n rfl rfl ?_
    refine b_iald rfl rfl (by omega) (by omega) ?_
    try simp only [tn6, tn4, tn2, tn144, tn24, tn_cast, Int.reduceToNat]
    refine b_goto (tgt := 24) rfl rfl ?_
    refine b_iret rfl rfl ?_
    first
    | exact qI kq (by rw [if_pos (by omega), h4 k.toNat (by omega)]) rfl
    | exact qI kq (by rw [if_neg (by omega)]) rfl
  · refine ⟨_, rfl, ?_⟩
    refine b_if_eq (tgt := 23) rfl rfl (fun _ => ?_) (fun z => absurd z (by decide))
    refine b_iconst rfl (by decide) ?_
    refine b_iret rfl rfl ?_
    first
    | exact qI kq (by rw [if_pos (by omega), h4 k.toNat (by omega)]) rfl
    | exact qI kq (by rw [if_neg (by omega)]) rfl
theorem spm_ordered {J K : HI} {Q : Option AV → HI → Prop} {k : Int} (h : RRw J K) (kq : Q (some (aI (if 0 ≤ k ∧ k < J 44 11 then J 48 k.toNat else -1))) K) : Rj MX12_ordered 1 [aR 57, aI k] K Q := by
  obtain ⟨-, h1, h2, h3, h4⟩ := h
  refine rj_of okX12_ordered (Nat.le_of_ble_eq_true rfl) rfl ?_
  refine b_iload_n rfl rfl ?_
  refine b_iconst rfl (by decide) ?_
  refine b_aload_n rfl rfl ?_
  refine b_getI rfl fl12_213 rfl (by decide) rfl ?_
  rw [h1]
  refine b_iconst rfl (by decide) ?_
  refine b_isubN rfl (by omega) (by omega) ?_
  refine b_callS3i (ν := MX12_is) rfl ml12_322 csX12_is (d' := 0) (by omega) (Nat.le_of_ble_eq_true rfl) ?_
  refine spm_is (fun hy => ?_) (fun hn => ?_)
  · refine ⟨_, rfl, ?_⟩
    refine b_if_eq (tgt := 23) rfl rfl (fun z => absurd z (by decide)) (fun _ => ?_)
    refine b_aload_n rfl rfl ?_
    refine b_getR (r := 96) rfl fl12_216 rfl (by decide) rfl rfl ?_
    refine b_iload_n rfl rfl ?_
    refine b_iald rfl rfl (by omega) (by omega) ?_
    try simp only [tn6, tn4, tn2, tn144, tn24, tn_cast, Int.reduceToNat]
    refine b_goto (tgt := 24) rfl rfl ?_
    refine b_iret rfl rfl ?_
    first
    | exact qI kq (by rw [if_pos (by omega), h4 k.toNat (by omega)]) rfl
    | exact qI kq (by rw [if_neg (by omega)]) rfl
  · refine ⟨_, rfl, ?_⟩
    refine b_if_eq (tgt := 23) rfl rfl (fun _ => ?_) (fun z => absurd z (by decide))
    refine b_iconst rfl (by decide) ?_
    refine b_iret rfl rfl ?_
    first
    | exact qI kq (by rw [if_pos (by omega), h4 k.toNat (by omega)]) rfl
    | exact qI kq (by rw [if_neg (by omega)]) rfl
def RRf (J K : HI) : Prop := ∀ k, k < 6 → K 84 k = J 55 k
theorem spm_status {J K : HI} {Q : Option AV → HI → Prop} {k : Int} (h : RRf J K) (kq : Q (some (aI (if 0 ≤ k ∧ k < 6 then J 55 k.toNat else -1))) K) : Rj MX12_status 1 [aR 57, aI k] K Q := by
  refine rj_of okX12_status (Nat.le_of_ble_eq_true rfl) rfl ?_
  refine b_iload_n rfl rfl ?_
  refine b_iconst rfl (by decide) ?_
  refine b_iconst rfl (by decide) ?_
  refine b_callS3i (ν := MX12_is) rfl ml12_322 csX12_is (d' := 0) (by omega) (Nat.le_of_ble_eq_true rfl) ?_
  refine spm_is (fun hy => ?_) (fun hn => ?_)
  · refine ⟨_, rfl, ?_⟩
    refine b_if_eq (tgt := 18) rfl rfl (fun z => absurd z (by decide)) (fun _ => ?_)
    refine b_aload_n rfl rfl ?_
    refine b_getR (r := 84) rfl fl12_153 rfl (by decide) rfl rfl ?_
    refine b_iload_n rfl rfl ?_
    refine b_iald rfl rfl (by omega) (by omega) ?_
    try simp only [tn6, tn4, tn2, tn144, tn24, tn_cast, Int.reduceToNat]
    refine b_goto (tgt := 19) rfl rfl ?_
    refine b_iret rfl rfl ?_
    first
    | exact qI kq (by rw [if_pos (by omega), h k.toNat (by omega)]) rfl
    | exact qI kq (by rw [if_neg (by omega)]) rfl
  · refine ⟨_, rfl, ?_⟩
    refine b_if_eq (tgt := 18) rfl rfl (fun _ => ?_) (fun z => absurd z (by decide))
    refine b_iconst rfl (by decide) ?_
    refine b_iret rfl rfl ?_
    first
    | exact qI kq (by rw [if_pos (by omega), h k.toNat (by omega)]) rfl
    | exact qI kq (by rw [if_neg (by omega)]) rfl
def RWr (J K : HI) : Prop := K 57 70 = J 0 12 ∧ 0 ≤ J 0 12 ∧ J 0 12 ≤ 153 ∧ ∀ k : Nat, (k : Int) < J 0 12 → K 98 k = J 56 k
theorem spm_octet {J K : HI} {Q : Option AV → HI → Prop} {k : Int} (h : RWr J K) (kq : Q (some (aI (if 0 ≤ k ∧ k < J 0 12 then J 56 k.toNat else -1))) K) : Rj MX12_octet 1 [aR 57, aI k] K Q := by
  obtain ⟨h1, h2, h3, h4⟩ := h
  refine rj_of okX12_octet (Nat.le_of_ble_eq_true rfl) rfl ?_
  refine b_iload_n rfl rfl ?_
  refine b_iconst rfl (by decide) ?_
  refine b_aload_n rfl rfl ?_
  refine b_getI rfl fl12_225 rfl (by decide) rfl ?_
  rw [h1]
  refine b_iconst rfl (by decide) ?_
  refine b_isubN rfl (by omega) (by omega) ?_
  refine b_callS3i (ν := MX12_is) rfl ml12_322 csX12_is (d' := 0) (by omega) (Nat.le_of_ble_eq_true rfl) ?_
  refine spm_is (fun hy => ?_) (fun hn => ?_)
  · refine ⟨_, rfl, ?_⟩
    refine b_if_eq (tgt := 23) rfl rfl (fun z => absurd z (by decide)) (fun _ => ?_)
    refine b_aload_n rfl rfl ?_
    refine b_getR (r := 98) rfl fl12_222 rfl (by decide) rfl rfl ?_
    refine b_iload_n rfl rfl ?_
    refine b_iald rfl rfl (by omega) (by omega) ?_
    try simp only [tn6, tn4, tn2, tn144, tn24, tn_cast, Int.reduceToNat]
    refine b_goto (tgt := 24) rfl rfl ?_
    refine b_iret rfl rfl ?_
    first
    | exact qI kq (by rw [if_pos (by omega), h4 k.toNat (by omega)]) rfl
    | exact qI kq (by rw [if_neg (by omega)]) rfl
  · refine ⟨_, rfl, ?_⟩
    refine b_if_eq (tgt := 23) rfl rfl (fun _ => ?_) (fun z => absurd z (by decide))
    refine b_iconst rfl (by decide) ?_
    refine b_iret rfl rfl ?_
    first
    | exact qI kq (by rw [if_pos (by omega), h4 k.toNat (by omega)]) rfl
    | exact qI kq (by rw [if_neg (by omega)]) rfl
theorem spm_kept {J K : HI} {Q : Option AV → HI → Prop} {k w : Int} (h : SRn J K) (hk : 0 ≤ J 30 4 ∧ J 30 4 ≤ 60) (kq : Q (some (aI (if 0 ≤ k ∧ k < J 30 4 then kpt J k w else -1))) K) : Rj MX12_kept 1 [aR 57, aI k, aI w] K Q := by
  have h4 := h.2.2.2.1
  have h5 := h.2.2.2.2
  have e : 0 ≤ k ∧ k < J 30 4 → 0 ≤ w ∧ w ≤ 4 → K 89 (5 * k + w).toNat = kpt J k w := by
    intro hk hw
    have := h5 k.toNat w.toNat (by omega) (by omega)
    rw [show 300 * 0 + 5 * k.toNat + w.toNat = (5 * k + w).toNat by omega] at this
    rw [this]
    unfold unp kpt
    rw [show ((k.toNat : Nat) : Int) = k by omega]
    have h9 : w = 0 ∨ w = 1 ∨ w = 2 ∨ w = 3 ∨ w = 4 := by omega
    rcases h9 with e | e | e | e | e <;> subst e <;> rfl
  have e0 : ¬ (0 ≤ w ∧ w ≤ 4) → kpt J k w = -1 := by
    intro hw
    unfold kpt
    rw [if_neg (by omega), if_neg (by omega), if_neg (by omega), if_neg (by omega), if_neg (by omega)]
  refine rj_of okX12_kept (Nat.le_of_ble_eq_true rfl) rfl ?_
  refine b_iload_n rfl rfl ?_
  refine b_iconst rfl (by decide) ?_
  refine b_aload_n rfl rfl ?_
  refine b_getR (r := 88) rfl fl12_165 rfl (by decide) rfl rfl ?_
  refine b_iconst rfl (by decide) ?_
  refine b_ialdL (k := 0) rfl rfl rfl (by decide) ?_
  try simp only [tn6, tn4, tn2, tn144, tn24, tn_cast, Int.reduceToNat]
  rw [h4]
  refine b_iconst rfl (by decide) ?_
  refine b_isubN rfl (by omega) (by omega) ?_
  refine b_callS3i (ν := MX12_is) rfl ml12_322 csX12_is (d' := 0) (by omega) (Nat.le_of_ble_eq_true rfl) ?_
  refine spm_is (fun hy => ?_) (fun hn => ?_)
  · refine ⟨_, rfl, ?_⟩
    refine b_if_eq (tgt := 38) rfl rfl (fun z => absurd z (by decide)) (fun _ => ?_)
    refine b_iload_n rfl rfl ?_
    refine b_iconst rfl (by decide) ?_
    refine b_iconst rfl (by decide) ?_
    refine b_callS3i (ν := MX12_is) rfl ml12_322 csX12_is (d' := 0) (by omega) (Nat.le_of_ble_eq_true rfl) ?_
    refine spm_is (fun hy2 => ?_) (fun hn2 => ?_)
    · refine ⟨_, rfl, ?_⟩
      refine b_if_eq (tgt := 38) rfl rfl (fun z => absurd z (by decide)) (fun _ => ?_)
      refine b_aload_n rfl rfl ?_
      refine b_getR (r := 89) rfl fl12_168 rfl (by decide) rfl rfl ?_
      refine b_iconst rfl (by decide) ?_
      refine b_iload_n rfl rfl ?_
      refine b_imulN rfl (by omega) (by omega) ?_
      refine b_iload_n rfl rfl ?_
      refine b_iaddN rfl (by omega) (by omega) ?_
      refine b_iald rfl rfl (by omega) (by omega) ?_
      try simp only [tn6, tn4, tn2, tn144, tn24, tn_cast, Int.reduceToNat]
      refine b_goto (tgt := 39) rfl rfl ?_
      refine b_iret rfl rfl ?_
      first
      | exact qI kq (by rw [if_pos (by omega), e (by omega) hy2]) rfl
      | exact qI kq (by rw [if_pos (by omega), e0 hn2]) rfl
      | exact qI kq (by rw [if_neg (by omega)]) rfl
    · refine ⟨_, rfl, ?_⟩
      refine b_if_eq (tgt := 38) rfl rfl (fun _ => ?_) (fun z => absurd z (by decide))
      refine b_iconst rfl (by decide) ?_
      refine b_iret rfl rfl ?_
      first
      | exact qI kq (by rw [if_pos (by omega), e (by omega) hy2]) rfl
      | exact qI kq (by rw [if_pos (by omega), e0 hn2]) rfl
      | exact qI kq (by rw [if_neg (by omega)]) rfl
  · refine ⟨_, rfl, ?_⟩
    refine b_if_eq (tgt := 38) rfl rfl (fun _ => ?_) (fun z => absurd z (by decide))
    refine b_iconst rfl (by decide) ?_
    refine b_iret rfl rfl ?_
    first
    | exact qI kq (by rw [if_pos (by omega), e (by omega) hy2]) rfl
    | exact qI kq (by rw [if_pos (by omega), e0 hn2]) rfl
    | exact qI kq (by rw [if_neg (by omega)]) rfl
theorem spm_seed {K : HI} {Q : Option AV → HI → Prop} {n : Int} (k1 : 0 ≤ n → Q (some (aI 1)) (up K 57 54 n)) (k0 : n < 0 → Q (some (aI 0)) (mrf K 5)) : Rj MX12_seed 1 [aR 57, aI n] K Q := by
  refine rj_of okX12_seed (Nat.le_of_ble_eq_true rfl) rfl ?_
  refine b_iload_n rfl rfl ?_
  refine b_if_ge (tgt := 18) rfl rfl (fun c1 => ?_) (fun c1 => ?_)
  · refine b_aload_n rfl rfl ?_
    refine b_iload_n rfl rfl ?_
    refine b_i2l rfl ?_
    refine b_putJ rfl fl12_177 rfl (by decide) rfl ?_
    refine b_iconst rfl (by decide) ?_
    refine b_zret rfl rfl (by first | decide | omega) ?_
    first | exact k0 (by omega) | exact k1 (by omega)
  · refine b_aload_n rfl rfl ?_
    refine b_iconst rfl (by decide) ?_
    refine b_callV1i (ν := MX12_refuses) rfl ml12_228 cvX12_refuses (d' := 0) (by omega) rfl (by decide) rfl (Nat.le_of_ble_eq_true rfl) ?_
    refine spm_refuses (k := 5) (by decide) ?_
    refine ⟨_, rfl, ?_⟩
    refine b_if_lt (tgt := 16) rfl rfl (fun c9 => ?_) (fun c9 => ?_)
    · refine b_iconst rfl (by decide) ?_
      refine b_zret rfl rfl (by first | decide | omega) ?_
      first | exact k0 (by omega) | exact k1 (by omega)
    · omega
theorem spm_end {K : HI} {Q : Option AV → HI → Prop} {n : Int} (k1 : 0 ≤ n ∧ n ≤ K 57 1 → Q (some (aI 1)) (up K 57 1 n)) (k0 : ¬ (0 ≤ n ∧ n ≤ K 57 1) → Q (some (aI 0)) (mrf K 0)) : Rj MX12_end 1 [aR 57, aI n] K Q := by
  refine rj_of okX12_end (Nat.le_of_ble_eq_true rfl) rfl ?_
  refine b_iload_n rfl rfl ?_
  refine b_if_lt (tgt := 12) rfl rfl (fun c1 => ?_) (fun c1 => ?_)
  · refine b_aload_n rfl rfl ?_
    refine b_iconst rfl (by decide) ?_
    refine b_callV1i (ν := MX12_refuses) rfl ml12_228 cvX12_refuses (d' := 0) (by omega) rfl (by decide) rfl (Nat.le_of_ble_eq_true rfl) ?_
    refine spm_refuses (k := 0) (by decide) ?_
    refine ⟨_, rfl, ?_⟩
    refine b_if_lt (tgt := 24) rfl rfl (fun c17 => ?_) (fun c17 => ?_)
    · refine b_iconst rfl (by decide) ?_
      refine b_zret rfl rfl (by first | decide | omega) ?_
      first | exact k0 (by omega) | exact k1 (by omega)
    · omega
  · refine b_iload_n rfl rfl ?_
    refine b_aload_n rfl rfl ?_
    refine b_getI rfl fl12_13 rfl (by decide) rfl ?_
    refine b_icmp_le (tgt := 26) rfl rfl (fun c9 => ?_) (fun c9 => ?_)
    · refine b_aload_n rfl rfl ?_
      refine b_iload_n rfl rfl ?_
      refine b_putI rfl fl12_13 rfl (by decide) rfl ?_
      refine b_iconst rfl (by decide) ?_
      refine b_zret rfl rfl (by first | decide | omega) ?_
      first | exact k0 (by omega) | exact k1 (by omega)
    · refine b_aload_n rfl rfl ?_
      refine b_iconst rfl (by decide) ?_
      refine b_callV1i (ν := MX12_refuses) rfl ml12_228 cvX12_refuses (d' := 0) (by omega) rfl (by decide) rfl (Nat.le_of_ble_eq_true rfl) ?_
      refine spm_refuses (k := 0) (by decide) ?_
      refine ⟨_, rfl, ?_⟩
      refine b_if_lt (tgt := 24) rfl rfl (fun c17 => ?_) (fun c17 => ?_)
      · refine b_iconst rfl (by decide) ?_
        refine b_zret rfl rfl (by first | decide | omega) ?_
        first | exact k0 (by omega) | exact k1 (by omega)
      · omega
theorem spm_fault {K : HI} {Q : Option AV → HI → Prop} {n : Int} (kq : Q (some (aI (if n = 0 then K 57 10 else if n = 1 then K 57 11 else -1))) K) : Rj MX12_fault 0 [aR 57, aI n] K Q := by
  refine rj_of okX12_fault (Nat.le_of_ble_eq_true rfl) rfl ?_
  refine b_iload_n rfl rfl ?_
  refine b_if_ne (tgt := 11) rfl rfl (fun c1 => ?_) (fun c1 => ?_)
  · refine b_iload_n rfl rfl ?_
    refine b_iconst rfl (by decide) ?_
    refine b_icmp_ne (tgt := 23) rfl rfl (fun c13 => ?_) (fun c13 => ?_)
    · refine b_iconst rfl (by decide) ?_
      refine b_iret rfl rfl ?_
      first
      | (rw [if_pos (by omega)] at kq; exact kq)
      | (rw [if_neg (by omega), if_pos (by omega)] at kq; exact kq)
      | (rw [if_neg (by omega), if_neg (by omega)] at kq; exact kq)
    · refine b_aload_n rfl rfl ?_
      refine b_getI rfl fl12_45 rfl (by decide) rfl ?_
      refine b_goto (tgt := 24) rfl rfl ?_
      refine b_iret rfl rfl ?_
      first
      | (rw [if_pos (by omega)] at kq; exact kq)
      | (rw [if_neg (by omega), if_pos (by omega)] at kq; exact kq)
      | (rw [if_neg (by omega), if_neg (by omega)] at kq; exact kq)
  · refine b_aload_n rfl rfl ?_
    refine b_getI rfl fl12_42 rfl (by decide) rfl ?_
    refine b_goto (tgt := 24) rfl rfl ?_
    refine b_iret rfl rfl ?_
    first
    | (rw [if_pos (by omega)] at kq; exact kq)
    | (rw [if_neg (by omega), if_pos (by omega)] at kq; exact kq)
    | (rw [if_neg (by omega), if_neg (by omega)] at kq; exact kq)
def mAdd (I : HI) (a : Int) : HI := fun q k => if q = 58 ∧ (I 57 1).toNat ≤ k ∧ k < (I 57 1).toNat + 4 then byt a (k - (I 57 1).toNat) else if q = 57 ∧ k = 1 then I 57 1 + 4 else I q k
theorem spm_put {I : HI} {Q : Option AV → HI → Prop} {a : Int} (h0 : 0 ≤ I 57 1) (h1 : I 57 1 + 4 ≤ 1600) (ha : in32 a) (kq : Q none (mAdd I a)) : Rj MX12_put 0 [aR 57, aI a] I Q := by
  refine rj_of okX12_put (Nat.le_of_ble_eq_true rfl) rfl ?_
  have lp : ∀ (n i : Nat) (z : Int), i + n = 4 → z = 24 - 8 * (i : Int) → ∀ J : HI, (∀ q k, J q k = if q = 58 ∧ (I 57 1).toNat ≤ k ∧ k < (I 57 1).toNat + i then byt a (k - (I 57 1).toNat) else if q = 57 ∧ k = 1 then I 57 1 + i else I q k) → Bj MX12_put 0 3 [some (aR 57), some (aI a), some (aI z)] [] J Q := by
    intro n
    induction n with
    | zero =>
      intro i z hi hz J hJ
      refine b_iload_n rfl rfl ?_
      refine b_if_lt (tgt := 39) rfl rfl (fun c4 => ?_) (fun c4 => ?_)
      · refine b_vret rfl rfl ?_
        refine qN kq ?_
        funext q k
        rw [hJ]
        unfold mAdd
        have : i = 4 := by omega
        subst this
        rfl
      · omega
    | succ n ih =>
      intro i z hi hz J hJ
      have e1 : J 57 1 = I 57 1 + i := by rw [hJ]; simp
      refine b_iload_n rfl rfl ?_
      refine b_if_lt (tgt := 39) rfl rfl (fun c4 => ?_) (fun c4 => ?_)
      · omega
      · refine b_aload_n rfl rfl ?_
        refine b_getR (r := 58) rfl fl12_7 rfl (by decide) rfl rfl ?_
        refine b_aload_n rfl rfl ?_
        refine b_getI rfl fl12_13 rfl (by decide) rfl ?_
        refine b_iload_n rfl rfl ?_
        refine b_iload_n rfl rfl ?_
        refine b_ishr rfl ?_
        refine b_sipush rfl (by decide) ?_
        refine b_iand rfl ?_
        rw [show iAnd (iShr a z) 255 = byt a i by
        have e2 : z = ((24 - 8 * i : Nat) : Int) := by omega
        rw [e2, iShr_p _ ha (by omega), iAnd_255]
        rfl]
        refine b_iast rfl rfl (by rw [e1]; omega) (by rw [e1]; omega) ?_
        try simp only [tn6, tn4, tn2, tn144, tn24, tn_cast, Int.reduceToNat]
        refine b_aload_n rfl rfl ?_
        refine b_dup rfl rfl ?_
        refine b_getI rfl fl12_13 rfl (by decide) rfl ?_
        try simp only [up_ap, cpy_ap, fil_ap, row_ap, Nat.reduceEqDiff, Nat.reduceLT, Nat.reduceLeDiff, Int.toNat_natCast, Int.reduceToNat, reduceCtorEq, false_and, and_false, true_and, and_true, and_self, reduceIte]
        refine b_iconst rfl (by decide) ?_
        refine b_iaddN rfl (by rw [e1]; omega) (by rw [e1]; omega) ?_
        refine b_putI rfl fl12_13 rfl (by decide) rfl ?_
        refine b_iincX (F := fun z33 => [some (aR 57), some (aI a), some (aI z33)]) rfl rfl (by omega) (by omega) (fun _ => rfl) (fun z33 ez33 => ?_)
        refine b_goto (tgt := 3) rfl rfl ?_
        refine ih (i + 1) _ (by omega) (by omega) _ ?_
        intro q k
        simp only [up_ap, e1]
        rw [hJ]
        have e3 : (I 57 1 + (i : Int)).toNat = (I 57 1).toNat + i := by omega
        rw [e3]
        generalize (I 57 1).toNat = w
        clear ih
        grind
  refine b_bipush rfl (by decide) ?_
  refine b_istoreX_n (F := fun z2 => [some (aR 57), some (aI a), some (aI z2)]) rfl (by decide) (fun _ => rfl) (fun z2 ez2 => ?_)
  refine lp 4 0 _ rfl (by omega) I ?_
  intro q k
  clear lp
  grind
theorem mAdd_1 {I : HI} {a : Int} : mAdd I a 57 1 = I 57 1 + 4 := by
  unfold mAdd
  simp
def mfed (I : HI) (a b c d e : Int) : HI := mAdd (mAdd (mAdd (mAdd (mAdd I a) b) c) d) e
theorem spm_feed {I : HI} {Q : Option AV → HI → Prop} {a b c d e : Int} (ha : in32 a ∧ in32 b ∧ in32 c ∧ in32 d ∧ in32 e) (ht : 0 ≤ I 57 1 ∧ I 57 1 ≤ 1600) (k1 : I 57 1 + 20 ≤ 1600 → Q (some (aI (I 57 1 + 20))) (mfed I a b c d e)) (k0 : 1600 < I 57 1 + 20 → Q (some (aI (-1))) (mrf I 0)) : Rj MX12_feed 1 [aR 57, aI a, aI b, aI c, aI d, aI e] I Q := by
  refine rj_of okX12_feed (Nat.le_of_ble_eq_true rfl) rfl ?_
  refine b_aload_n rfl rfl ?_
  refine b_getI rfl fl12_13 rfl (by decide) rfl ?_
  refine b_bipush rfl (by decide) ?_
  refine b_iaddN rfl (by omega) (by omega) ?_
  refine b_sipush rfl (by decide) ?_
  refine b_icmp_le (tgt := 19) rfl rfl (fun c10 => ?_) (fun c10 => ?_)
  · refine b_aload_n rfl rfl ?_
    refine b_iload_n rfl rfl ?_
    refine b_callV1v (ν := MX12_put) rfl ml12_232 cvX12_put (d' := 0) (by omega) rfl (by decide) rfl (Nat.le_of_ble_eq_true rfl) ?_
    refine spm_put (by omega) (by omega) ha.1 ?_
    refine ⟨rfl, ?_⟩
    refine b_aload_n rfl rfl ?_
    refine b_iload_n rfl rfl ?_
    refine b_callV1v (ν := MX12_put) rfl ml12_232 cvX12_put (d' := 0) (by omega) rfl (by decide) rfl (Nat.le_of_ble_eq_true rfl) ?_
    refine spm_put (by rw [mAdd_1]; omega) (by rw [mAdd_1]; omega) ha.2.1 ?_
    refine ⟨rfl, ?_⟩
    refine b_aload_n rfl rfl ?_
    refine b_iload_n rfl rfl ?_
    refine b_callV1v (ν := MX12_put) rfl ml12_232 cvX12_put (d' := 0) (by omega) rfl (by decide) rfl (Nat.le_of_ble_eq_true rfl) ?_
    refine spm_put (by rw [mAdd_1, mAdd_1]; omega) (by rw [mAdd_1, mAdd_1]; omega) ha.2.2.1 ?_
    refine ⟨rfl, ?_⟩
    refine b_aload_n rfl rfl ?_
    refine b_iload rfl rfl ?_
    refine b_callV1v (ν := MX12_put) rfl ml12_232 cvX12_put (d' := 0) (by omega) rfl (by decide) rfl (Nat.le_of_ble_eq_true rfl) ?_
    refine spm_put (by rw [mAdd_1, mAdd_1, mAdd_1]; omega) (by rw [mAdd_1, mAdd_1, mAdd_1]; omega) ha.2.2.2.1 ?_
    refine ⟨rfl, ?_⟩
    refine b_aload_n rfl rfl ?_
    refine b_iload rfl rfl ?_
    refine b_callV1v (ν := MX12_put) rfl ml12_232 cvX12_put (d' := 0) (by omega) rfl (by decide) rfl (Nat.le_of_ble_eq_true rfl) ?_
    refine spm_put (by rw [mAdd_1, mAdd_1, mAdd_1, mAdd_1]; omega) (by rw [mAdd_1, mAdd_1, mAdd_1, mAdd_1]; omega) ha.2.2.2.2 ?_
    refine ⟨rfl, ?_⟩
    refine b_aload_n rfl rfl ?_
    refine b_getI rfl fl12_13 rfl (by decide) rfl ?_
    refine b_iret rfl rfl ?_
    exact qI (k1 c10) (by rw [mAdd_1, mAdd_1, mAdd_1, mAdd_1, mAdd_1]; omega) rfl
  · refine b_aload_n rfl rfl ?_
    refine b_iconst rfl (by decide) ?_
    refine b_callV1i (ν := MX12_refuses) rfl ml12_228 cvX12_refuses (d' := 0) (by omega) rfl (by decide) rfl (Nat.le_of_ble_eq_true rfl) ?_
    refine spm_refuses (k := 0) (by decide) ?_
    refine ⟨_, rfl, ?_⟩
    refine b_iret rfl rfl ?_
    exact k0 (by omega)
