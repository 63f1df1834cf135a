def qa_Ok (M : qa_M) : Prop := qa_de M = true ∧ qa_mk M = true
theorem qa_fl_k (k : Nat) (hk : k < 12) : (qa_fl k).all (qa_fk k) = true := by
  match k, hk with
  | 0, _ => exact qa_fl_k0
  | 1, _ => exact qa_fl_k1
  | 2, _ => exact qa_fl_k2
  | 3, _ => exact qa_fl_k3
  | 4, _ => exact qa_fl_k4
  | 5, _ => exact qa_fl_k5
  | 6, _ => exact qa_fl_k6
  | 7, _ => exact qa_fl_k7
  | 8, _ => exact qa_fl_k8
  | 9, _ => exact qa_fl_k9
  | 10, _ => exact qa_fl_k10
  | 11, _ => exact qa_fl_k11
  | _ + 12, h => exact absurd h (by omega)
theorem qa_nw_k (k : Nat) (hk : k < 12) : (qa_nw k).all (qa_nk k) = true := by
  match k, hk with
  | 0, _ => exact qa_nw_k0
  | 1, _ => exact qa_nw_k1
  | 2, _ => exact qa_nw_k2
  | 3, _ => exact qa_nw_k3
  | 4, _ => exact qa_nw_k4
  | 5, _ => exact qa_nw_k5
  | 6, _ => exact qa_nw_k6
  | 7, _ => exact qa_nw_k7
  | 8, _ => exact qa_nw_k8
  | 9, _ => exact qa_nw_k9
  | 10, _ => exact qa_nw_k10
  | 11, _ => exact qa_nw_k11
  | _ + 12, h => exact absurd h (by omega)
theorem qa_kl_k (k : Nat) (hk : k < 12) : (qa_kl k).all (qa_kk k) = true := by
  match k, hk with
  | 0, _ => exact qa_kl_k0
  | 1, _ => exact qa_kl_k1
  | 2, _ => exact qa_kl_k2
  | 3, _ => exact qa_kl_k3
  | 4, _ => exact qa_kl_k4
  | 5, _ => exact qa_kl_k5
  | 6, _ => exact qa_kl_k6
  | 7, _ => exact qa_kl_k7
  | 8, _ => exact qa_kl_k8
  | 9, _ => exact qa_kl_k9
  | 10, _ => exact qa_kl_k10
  | 11, _ => exact qa_kl_k11
  | _ + 12, h => exact absurd h (by omega)
theorem qa_kz_k (k : Nat) (hk : k < 12) : (qa_kz k).all (qa_kzk k) = true := by
  match k, hk with
  | 0, _ => exact qa_kz_k0
  | 1, _ => exact qa_kz_k1
  | 2, _ => exact qa_kz_k2
  | 3, _ => exact qa_kz_k3
  | 4, _ => exact qa_kz_k4
  | 5, _ => exact qa_kz_k5
  | 6, _ => exact qa_kz_k6
  | 7, _ => exact qa_kz_k7
  | 8, _ => exact qa_kz_k8
  | 9, _ => exact qa_kz_k9
  | 10, _ => exact qa_kz_k10
  | 11, _ => exact qa_kz_k11
  | _ + 12, h => exact absurd h (by omega)
theorem qa_ca_k (k : Nat) (hk : k < 12) : (qa_ca k).all (qa_ck k) = true := by
  match k, hk with
  | 0, _ => exact qa_ca_k0
  | 1, _ => exact qa_ca_k1
  | 2, _ => exact qa_ca_k2
  | 3, _ => exact qa_ca_k3
  | 4, _ => exact qa_ca_k4
  | 5, _ => exact qa_ca_k5
  | 6, _ => exact qa_ca_k6
  | 7, _ => exact qa_ca_k7
  | 8, _ => exact qa_ca_k8
  | 9, _ => exact qa_ca_k9
  | 10, _ => exact qa_ca_k10
  | 11, _ => exact qa_ca_k11
  | _ + 12, h => exact absurd h (by omega)
