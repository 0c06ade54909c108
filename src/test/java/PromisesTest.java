/** One method for each promise of the document, and some for what stands under its terms. */
public final class PromisesTest {
    private static final int MIN = Integer.MIN_VALUE;
    private static final int MAX = Integer.MAX_VALUE;

    private static final Check CHECK = new Check();

    public static void main(String[] args) {
        promise1NewObject();
        promise2AddDie();
        promise3Sharpen();
        promise4AddLeaves();
        promise5Strike();
        promise5StrikeGrades();
        promise6PassYears();
        promise7Recall();
        promise8Pay();
        promise8PayPrefersGreatValues();
        promise8PayPrefersWornAndOldCoins();
        promise9DieCount();
        promises10To12DieQueries();
        promise13NextGrade();
        promise14DieByWear();
        promises15To17Counters();
        promises18To20VaultSums();
        promise21CoinsOfValue();
        promise22CoinsOfYear();
        promise23CoinsOfGrade();
        promise24Kinds();
        promise25CanPay();
        promises26And27FewestCoins();
        promise28GreedyCoins();
        promise29CoinsUsed();
        promise30PayableAmounts();
        promise31RecallGrams();
        promises32To36Totals();
        promise37MeanWear();
        promise38GradeShare();
        promise39IsConsistent();
        promise40RenderDie();
        promise41RenderVault();
        promise42OutputAt();
        promise43Type();
        promise44RunScript();
        promise44RunScriptIsAllOrNothing();
        promise45ErrorPosition();
        promise45ErrorPositionKept();
        promise46FailedCommand();
        promise47Undo();
        promise47UndoCoversAllButTheExcepted();
        promise47RefusedCallsAreNoChanges();
        promise48Save();
        promise49Restore();
        CHECK.end("PromisesTest");
    }

    // ---- promises 1 to 8

    private static void promise1NewObject() {
        LeafMint mint = new LeafMint();
        CHECK.equal("1: leaves", mint.leaves(), 0);
        CHECK.equal("1: dies", mint.dieCount(), 0);
        CHECK.equal("1: coins", mint.vaultCoins(), 0);
        CHECK.equal("1: year", mint.year(), 0);
        CHECK.equal("1: struck", mint.struckTotal(), 0);
        CHECK.equal("1: paid", mint.paidTotal(), 0);
        CHECK.equal("1: paid weight", mint.paidWeight(), 0);
        CHECK.equal("1: lost", mint.lostWeight(), 0);
        CHECK.equal("1: added", mint.addedWeight(), 0);
        LeafMint other = new LeafMint();
        other.addDie(1, 1);
        CHECK.equal("1: objects share nothing", mint.dieCount(), 0);
    }

    private static void promise2AddDie() {
        LeafMint mint = new LeafMint();
        CHECK.fails("2: value 0", Thrown.ARGUMENT, () -> mint.addDie(0, 1));
        CHECK.fails("2: value 51", Thrown.ARGUMENT, () -> mint.addDie(51, 1));
        CHECK.fails("2: value MIN", Thrown.ARGUMENT, () -> mint.addDie(MIN, 1));
        CHECK.fails("2: value MAX", Thrown.ARGUMENT, () -> mint.addDie(MAX, 1));
        CHECK.fails("2: weight 0", Thrown.ARGUMENT, () -> mint.addDie(1, 0));
        CHECK.fails("2: weight 10", Thrown.ARGUMENT, () -> mint.addDie(1, 10));
        CHECK.equal("2: first", mint.addDie(50, 9), 0);
        CHECK.equal("2: second", mint.addDie(1, 1), 1);
        CHECK.fails("2: same value", Thrown.UNSUPPORTED, () -> mint.addDie(50, 3));
        CHECK.fails("2: argument before value", Thrown.ARGUMENT, () -> mint.addDie(50, 10));
        CHECK.equal("2: third", mint.addDie(30, 9), 2);
        CHECK.equal("2: fourth", mint.addDie(2, 9), 3);
        CHECK.equal("2: fifth", mint.addDie(3, 9), 4);
        CHECK.fails("2: sixth", Thrown.STATE, () -> mint.addDie(4, 9));
        CHECK.fails("2: full before same value", Thrown.STATE, () -> mint.addDie(50, 9));
        CHECK.fails("2: argument before full", Thrown.ARGUMENT, () -> mint.addDie(51, 9));
        CHECK.equal("2: count", mint.dieCount(), 5);
        CHECK.equal("2: wear", mint.wear(4), 0);
    }

    private static void promise3Sharpen() {
        LeafMint mint = Mints.withDies(5, 1);
        CHECK.fails("3: wear 0", Thrown.STATE, () -> mint.sharpen(0));
        CHECK.fails("3: no die", Thrown.INDEX, () -> mint.sharpen(1));
        CHECK.fails("3: negative", Thrown.INDEX, () -> mint.sharpen(-1));
        CHECK.fails("3: MIN", Thrown.INDEX, () -> mint.sharpen(MIN));
        CHECK.fails("3: MAX", Thrown.INDEX, () -> mint.sharpen(MAX));
        mint.strike(0, 7);
        CHECK.equal("3: before", mint.sharpen(0), 7);
        CHECK.equal("3: after", mint.wear(0), 0);
        CHECK.fails("3: again", Thrown.STATE, () -> mint.sharpen(0));
    }

    private static void promise4AddLeaves() {
        LeafMint mint = new LeafMint();
        CHECK.fails("4: 0", Thrown.ARGUMENT, () -> mint.addLeaves(0));
        CHECK.fails("4: 100", Thrown.ARGUMENT, () -> mint.addLeaves(100));
        CHECK.fails("4: MIN", Thrown.ARGUMENT, () -> mint.addLeaves(MIN));
        CHECK.fails("4: MAX", Thrown.ARGUMENT, () -> mint.addLeaves(MAX));
        CHECK.equal("4: 1", mint.addLeaves(1), 1);
        for (int i = 1; i <= 10; i++) {
            CHECK.equal("4: 99", mint.addLeaves(99), 1 + 99 * i);
        }
        CHECK.fails("4: 1000", Thrown.STATE, () -> mint.addLeaves(9));
        CHECK.fails("4: argument before state", Thrown.ARGUMENT, () -> mint.addLeaves(100));
        CHECK.equal("4: 999", mint.addLeaves(8), 999);
        CHECK.fails("4: full", Thrown.STATE, () -> mint.addLeaves(1));
        CHECK.equal("4: added", mint.addedWeight(), 999);
        mint.addDie(1, 9);
        mint.strike(0, 1);
        mint.addLeaves(9);
        CHECK.equal("4: a recall may go beyond 999", mint.recall(0), 9);
        CHECK.equal("4: beyond 999", mint.leaves(), 1008);
        CHECK.fails("4: beyond 999 already", Thrown.STATE, () -> mint.addLeaves(1));
    }

    private static void promise5Strike() {
        LeafMint mint = new LeafMint();
        CHECK.fails("5: no dies", Thrown.INDEX, () -> mint.strike(0, 1));
        mint.addDie(7, 9);
        mint.addDie(3, 1);
        mint.addLeaves(19);
        CHECK.fails("5: negative die", Thrown.INDEX, () -> mint.strike(-1, 1));
        CHECK.fails("5: die 2", Thrown.INDEX, () -> mint.strike(2, 1));
        CHECK.fails("5: die before count", Thrown.INDEX, () -> mint.strike(2, 0));
        CHECK.fails("5: die MAX", Thrown.INDEX, () -> mint.strike(MAX, 1));
        CHECK.fails("5: count 0", Thrown.ARGUMENT, () -> mint.strike(0, 0));
        CHECK.fails("5: count 10", Thrown.ARGUMENT, () -> mint.strike(0, 10));
        CHECK.fails("5: count MIN", Thrown.ARGUMENT, () -> mint.strike(0, MIN));
        CHECK.fails("5: count MAX", Thrown.ARGUMENT, () -> mint.strike(0, MAX));
        CHECK.fails("5: stock", Thrown.STATE, () -> mint.strike(0, 3));
        CHECK.equal("5: two", mint.strike(0, 2), 2);
        CHECK.equal("5: leaves", mint.leaves(), 1);
        CHECK.equal("5: the last gram", mint.strike(1, 1), 3);
        CHECK.equal("5: no leaves", mint.leaves(), 0);
        CHECK.fails("5: stock 0", Thrown.STATE, () -> mint.strike(1, 1));
        CHECK.equal("5: wear", mint.wear(0), 2);

        LeafMint full = Mints.withDies(5, 1, 4, 1);
        Mints.strikeMany(full, 0, 29);
        CHECK.fails("5: wear 31", Thrown.UNSUPPORTED, () -> full.strike(0, 2));
        CHECK.equal("5: wear 30", full.strike(0, 1), 30);
        CHECK.fails("5: worn out", Thrown.UNSUPPORTED, () -> full.strike(0, 1));
        CHECK.equal("5: 39 coins", full.strike(1, 9), 39);
        CHECK.fails("5: 41 coins", Thrown.STATE, () -> full.strike(1, 2));
        CHECK.fails("5: vault before wear", Thrown.STATE, () -> full.strike(0, 2));
        CHECK.equal("5: 40 coins", full.strike(1, 1), 40);
        CHECK.fails("5: vault full", Thrown.STATE, () -> full.strike(1, 1));
        CHECK.equal("5: year of the coins", full.coinsOfYear(0), 40);
    }

    private static void promise5StrikeGrades() {
        LeafMint mint = Mints.withDies(5, 1);
        Mints.strikeMany(mint, 0, 8);
        mint.strike(0, 4);
        CHECK.equal("5: A", mint.coinsOfGrade('A'), 10);
        CHECK.equal("5: B", mint.coinsOfGrade('B'), 2);
        Mints.strikeMany(mint, 0, 9);
        CHECK.equal("5: B", mint.coinsOfGrade('B'), 10);
        CHECK.equal("5: C", mint.coinsOfGrade('C'), 1);
        Mints.strikeMany(mint, 0, 9);
        CHECK.equal("5: C", mint.coinsOfGrade('C'), 10);
    }

    private static void promise6PassYears() {
        LeafMint mint = Mints.withDies(5, 1);
        CHECK.fails("6: 0", Thrown.ARGUMENT, () -> mint.passYears(0));
        CHECK.fails("6: 21", Thrown.ARGUMENT, () -> mint.passYears(21));
        CHECK.fails("6: MIN", Thrown.ARGUMENT, () -> mint.passYears(MIN));
        CHECK.fails("6: MAX", Thrown.ARGUMENT, () -> mint.passYears(MAX));
        CHECK.equal("6: no coins", mint.passYears(20), 0);
        CHECK.equal("6: year", mint.year(), 20);
        Mints.strikeMany(mint, 0, 11);
        CHECK.equal("6: age 4", mint.passYears(4), 0);
        Mints.strikeMany(mint, 0, 3);
        CHECK.equal("6: age 5", mint.passYears(1), 11);
        CHECK.equal("6: B after A", mint.coinsOfGrade('B'), 13);
        CHECK.equal("6: C after B", mint.coinsOfGrade('C'), 1);
        CHECK.equal("6: ages 9 and 5", mint.passYears(4), 3);
        CHECK.equal("6: age 10, C keeps its grade", mint.passYears(1), 10);
        CHECK.equal("6: all C", mint.coinsOfGrade('C'), 14);
        CHECK.equal("6: only C", mint.passYears(20), 0);

        LeafMint young = Mints.withDies(5, 1);
        young.strike(0, 2);
        CHECK.equal("6: twice in one call", young.passYears(20), 4);
        CHECK.equal("6: both C", young.coinsOfGrade('C'), 2);
    }

    private static void promise7Recall() {
        LeafMint mint = Mints.withDies(9, 1, 8, 2, 7, 5);
        CHECK.fails("7: no coins", Thrown.ELEMENT, () -> mint.recall(0));
        CHECK.fails("7: year to come", Thrown.ARGUMENT, () -> mint.recall(1));
        CHECK.fails("7: negative", Thrown.ARGUMENT, () -> mint.recall(-1));
        CHECK.fails("7: MIN", Thrown.ARGUMENT, () -> mint.recall(MIN));
        CHECK.fails("7: MAX", Thrown.ARGUMENT, () -> mint.recall(MAX));
        mint.strike(0, 2);
        mint.strike(1, 2);
        mint.strike(2, 3);
        mint.passYears(5);
        mint.strike(2, 1);
        mint.passYears(5);
        // The coins of year 0 are C now, that of year 5 is B.
        int leaves = mint.leaves();
        CHECK.equal("7: grade C", mint.recall(0), 3 * 3);
        CHECK.equal("7: leaves", mint.leaves(), leaves + 9);
        CHECK.equal("7: lost", mint.lostWeight(), 2 + 4 + 6);
        CHECK.equal("7: coins left", mint.vaultCoins(), 1);
        CHECK.fails("7: again", Thrown.ELEMENT, () -> mint.recall(0));
        CHECK.equal("7: grade B", mint.recall(5), 4);
        CHECK.equal("7: lost", mint.lostWeight(), 13);
        mint.strike(1, 2);
        CHECK.equal("7: grade A, this year", mint.recall(10), 4);
        CHECK.equal("7: nothing lost", mint.lostWeight(), 13);
        CHECK.holds("7: consistent", mint.isConsistent());
    }

    private static void promise8Pay() {
        LeafMint mint = Mints.withDies(50, 2, 49, 3, 7, 1);
        CHECK.fails("8: 0", Thrown.ARGUMENT, () -> mint.pay(0));
        CHECK.fails("8: 100", Thrown.ARGUMENT, () -> mint.pay(100));
        CHECK.fails("8: MIN", Thrown.ARGUMENT, () -> mint.pay(MIN));
        CHECK.fails("8: MAX", Thrown.ARGUMENT, () -> mint.pay(MAX));
        CHECK.fails("8: no coins", Thrown.UNSUPPORTED, () -> mint.pay(7));
        mint.strike(0, 2);
        mint.strike(1, 1);
        mint.strike(2, 8);
        CHECK.fails("8: 8", Thrown.UNSUPPORTED, () -> mint.pay(8));
        CHECK.equal("8: nothing is changed", mint.vaultCoins(), 11);
        CHECK.equal("8: 99", mint.pay(99), 2);
        CHECK.equal("8: coins", mint.vaultCoins(), 9);
        CHECK.equal("8: value", mint.vaultValue(), 50 + 56);
        CHECK.equal("8: 49 in small coins", mint.pay(49), 7);
        CHECK.fails("8: 49 again", Thrown.UNSUPPORTED, () -> mint.pay(49));
        CHECK.equal("8: 57", mint.pay(57), 2);
        CHECK.equal("8: empty", mint.vaultCoins(), 0);
        CHECK.equal("8: paid", mint.paidTotal(), 99 + 49 + 57);
        CHECK.equal("8: weight", mint.paidWeight(), 5 + 7 + 3);
        CHECK.holds("8: consistent", mint.isConsistent());
    }

    private static void promise8PayPrefersGreatValues() {
        // 12 = 10 + 1 + 1 = 5 + 5 + 2 = 4 + 4 + 4 = 6 + 5 + 1: the first is used.
        LeafMint mint = Mints.withDies(1, 1, 5, 1, 2, 1, 10, 1);
        mint.strike(0, 2);
        mint.strike(1, 2);
        mint.strike(2, 2);
        CHECK.equal("8: 5 + 5 + 2 before the tens", mint.fewestCoins(12), 3);
        mint.strike(3, 1);
        CHECK.equal("8: 10 + 2", mint.pay(12), 2);
        mint.strike(3, 1);
        // 11 = 10 + 1 is best, 16 = 10 + 5 + 1, 14 = 10 + 2 + 2 needs two twos, of which one is left.
        CHECK.equal("8: 14", mint.fewestCoins(14), 4);
        CHECK.equal("8: 14 has the ten", mint.coinsUsed(14, 10), 1);

        // 6 = 5 + 1 = 4 + 2 = 3 + 3: the greatest value decides.
        LeafMint even = Mints.withDies(3, 1, 4, 1, 2, 1, 1, 1, 5, 1);
        even.strike(0, 3);
        even.strike(1, 2);
        even.strike(2, 2);
        CHECK.equal("8: 4 + 2, not 3 + 3", even.coinsUsed(6, 4), 1);
        even.strike(3, 2);
        even.strike(4, 2);
        CHECK.equal("8: 6", even.pay(6), 2);
        CHECK.equal("8: five used", even.coinsOfValue(5), 1);
        CHECK.equal("8: one used", even.coinsOfValue(1), 1);
        // 9 = 5 + 4 is the only pair; 13 = 5 + 4 + 4; 7 = 5 + 2 = 4 + 3.
        CHECK.equal("8: 7", even.pay(7), 2);
        CHECK.equal("8: five used up", even.coinsOfValue(5), 0);
        CHECK.equal("8: fours kept", even.coinsOfValue(4), 2);
        // 10 = 4 + 4 + 2 = 4 + 3 + 3: as many fours as possible.
        CHECK.equal("8: 10", even.pay(10), 3);
        CHECK.equal("8: fours used up", even.coinsOfValue(4), 0);
        CHECK.equal("8: threes kept", even.coinsOfValue(3), 3);
    }

    private static void promise8PayPrefersWornAndOldCoins() {
        LeafMint mint = Mints.withDies(1, 1);
        Mints.strikeMany(mint, 0, 9);
        mint.passYears(1);
        mint.strike(0, 2);
        mint.passYears(1);
        mint.sharpen(0);
        mint.strike(0, 2);
        // A: 9 of year 0, 1 of year 1, 2 of year 2; B: 1 of year 1.
        mint.pay(1);
        CHECK.equal("8: B before A", mint.coinsOfGrade('B'), 0);
        CHECK.equal("8: of year 1", mint.coinsOfYear(1), 1);
        mint.pay(8);
        CHECK.equal("8: earlier years first", mint.coinsOfYear(0), 1);
        mint.pay(2);
        CHECK.equal("8: then year 1", mint.coinsOfYear(1), 0);
        CHECK.equal("8: year 2 is last", mint.coinsOfYear(2), 2);

        LeafMint old = Mints.withDies(1, 1);
        old.strike(0, 1);
        old.passYears(9);
        Mints.strikeMany(old, 0, 21);
        // Year 0: one B. Year 9: 9 A, 10 B, 2 C.
        old.pay(2);
        CHECK.equal("8: C before B", old.coinsOfGrade('C'), 0);
        CHECK.equal("8: C before earlier years", old.coinsOfYear(0), 1);
        old.pay(1);
        CHECK.equal("8: of the B coins the earliest", old.coinsOfYear(0), 0);
        CHECK.equal("8: B left", old.coinsOfGrade('B'), 10);
        old.pay(11);
        CHECK.equal("8: B used up", old.coinsOfGrade('B'), 0);
        CHECK.equal("8: A at last", old.coinsOfGrade('A'), 8);
    }

    // ---- promises 9 to 24

    private static void promise9DieCount() {
        LeafMint mint = new LeafMint();
        for (int i = 0; i < 5; i++) {
            CHECK.equal("9: count", mint.dieCount(), i);
            mint.addDie(10 - i, 1);
        }
        CHECK.equal("9: count", mint.dieCount(), 5);
    }

    private static void promises10To12DieQueries() {
        LeafMint mint = Mints.withDies(25, 7, 1, 2);
        mint.strike(1, 3);
        CHECK.equal("10: 0", mint.dieValue(0), 25);
        CHECK.equal("10: 1", mint.dieValue(1), 1);
        CHECK.equal("11: 0", mint.coinWeight(0), 7);
        CHECK.equal("11: 1", mint.coinWeight(1), 2);
        CHECK.equal("12: 0", mint.wear(0), 0);
        CHECK.equal("12: 1", mint.wear(1), 3);
        for (int die : new int[] {-1, 2, 5, MIN, MAX}) {
            CHECK.fails("10: " + die, Thrown.INDEX, () -> mint.dieValue(die));
            CHECK.fails("11: " + die, Thrown.INDEX, () -> mint.coinWeight(die));
            CHECK.fails("12: " + die, Thrown.INDEX, () -> mint.wear(die));
        }
    }

    private static void promise13NextGrade() {
        LeafMint mint = Mints.withDies(1, 1);
        for (int wear = 0; wear < 30; wear++) {
            char due = wear < 10 ? 'A' : wear < 20 ? 'B' : 'C';
            CHECK.equal("13: wear " + wear, mint.nextGrade(0), due);
            int before = mint.coinsOfGrade(due);
            mint.strike(0, 1);
            CHECK.equal("13: struck at wear " + wear, mint.coinsOfGrade(due), before + 1);
        }
        CHECK.fails("13: wear 30", Thrown.STATE, () -> mint.nextGrade(0));
        CHECK.fails("13: no die", Thrown.INDEX, () -> mint.nextGrade(1));
        CHECK.fails("13: negative", Thrown.INDEX, () -> mint.nextGrade(-1));
        mint.sharpen(0);
        CHECK.equal("13: sharp again", mint.nextGrade(0), 'A');
    }

    private static void promise14DieByWear() {
        LeafMint mint = new LeafMint();
        CHECK.fails("14: no dies", Thrown.ELEMENT, () -> mint.dieByWear(0));
        mint.addLeaves(99);
        int[] values = {5, 50, 7, 1, 20};
        for (int value : values) {
            mint.addDie(value, 1);
        }
        int[] byValue = {1, 4, 2, 0, 3};
        for (int rank = 0; rank < 5; rank++) {
            CHECK.equal("14: by value", mint.dieByWear(rank), byValue[rank]);
        }
        mint.strike(3, 4);
        mint.strike(0, 2);
        mint.strike(2, 2);
        int[] byWear = {3, 2, 0, 1, 4};
        for (int rank = 0; rank < 5; rank++) {
            CHECK.equal("14: by wear", mint.dieByWear(rank), byWear[rank]);
        }
        for (int rank : new int[] {-1, 5, MIN, MAX}) {
            CHECK.fails("14: " + rank, Thrown.ELEMENT, () -> mint.dieByWear(rank));
        }
    }

    private static void promises15To17Counters() {
        LeafMint mint = new LeafMint();
        mint.addDie(3, 4);
        mint.addLeaves(50);
        mint.strike(0, 5);
        mint.passYears(3);
        mint.passYears(1);
        CHECK.equal("15: leaves", mint.leaves(), 30);
        CHECK.equal("16: year", mint.year(), 4);
        CHECK.equal("17: coins", mint.vaultCoins(), 5);
    }

    private static void promises18To20VaultSums() {
        LeafMint mint = Mints.withDies(50, 9, 3, 2);
        CHECK.equal("18: empty", mint.vaultValue(), 0);
        CHECK.equal("19: empty", mint.vaultValueByDies(), 0);
        CHECK.equal("20: empty", mint.vaultWeight(), 0);
        mint.strike(0, 4);
        mint.strike(1, 5);
        CHECK.equal("18: coin by coin", mint.vaultValue(), 215);
        CHECK.equal("19: die by die", mint.vaultValueByDies(), 215);
        CHECK.equal("20: weight", mint.vaultWeight(), 46);
        mint.pay(53);
        CHECK.equal("18: after a payment", mint.vaultValue(), 162);
        CHECK.equal("19: after a payment", mint.vaultValueByDies(), 162);
        CHECK.equal("20: after a payment", mint.vaultWeight(), 35);
    }

    private static void promise21CoinsOfValue() {
        LeafMint mint = Mints.withDies(50, 9, 3, 2);
        mint.strike(1, 5);
        CHECK.equal("21: none yet", mint.coinsOfValue(50), 0);
        CHECK.equal("21: some", mint.coinsOfValue(3), 5);
        for (int value : new int[] {0, 1, 51, -3, MIN, MAX}) {
            CHECK.fails("21: " + value, Thrown.ELEMENT, () -> mint.coinsOfValue(value));
        }
    }

    private static void promise22CoinsOfYear() {
        LeafMint mint = Mints.withDies(50, 9, 3, 2);
        mint.strike(1, 5);
        mint.passYears(2);
        mint.strike(0, 1);
        mint.strike(1, 1);
        CHECK.equal("22: 0", mint.coinsOfYear(0), 5);
        CHECK.equal("22: 1", mint.coinsOfYear(1), 0);
        CHECK.equal("22: 2", mint.coinsOfYear(2), 2);
        for (int year : new int[] {-1, 3, MIN, MAX}) {
            CHECK.equal("22: " + year, mint.coinsOfYear(year), 0);
        }
    }

    private static void promise23CoinsOfGrade() {
        LeafMint mint = Mints.withDies(1, 1);
        CHECK.equal("23: empty", mint.coinsOfGrade('C'), 0);
        Mints.strikeMany(mint, 0, 25);
        CHECK.equal("23: A", mint.coinsOfGrade('A'), 10);
        CHECK.equal("23: B", mint.coinsOfGrade('B'), 10);
        CHECK.equal("23: C", mint.coinsOfGrade('C'), 5);
        for (char grade : new char[] {'D', '@', 'a', 0, 65535}) {
            CHECK.fails("23: " + (int) grade, Thrown.ARGUMENT, () -> mint.coinsOfGrade(grade));
        }
    }

    private static void promise24Kinds() {
        LeafMint mint = Mints.withDies(4, 1, 3, 1);
        CHECK.equal("24: empty", mint.kinds(), 0);
        Mints.strikeMany(mint, 0, 5);
        CHECK.equal("24: one", mint.kinds(), 1);
        mint.strike(1, 1);
        CHECK.equal("24: another value", mint.kinds(), 2);
        mint.passYears(1);
        mint.strike(0, 5);
        CHECK.equal("24: another year", mint.kinds(), 3);
        mint.strike(0, 1);
        CHECK.equal("24: another grade", mint.kinds(), 4);
        mint.strike(0, 1);
        CHECK.equal("24: the same kind", mint.kinds(), 4);
        mint.passYears(4);
        mint.passYears(1);
        // Year 1 has become B and C, so it still has two kinds.
        CHECK.equal("24: grades move on", mint.kinds(), 4);
    }

    // ---- promises 25 to 39

    private static void promise25CanPay() {
        LeafMint mint = Mints.withDies(50, 1, 7, 1);
        mint.strike(0, 2);
        mint.strike(1, 2);
        for (int amount = 1; amount <= 99; amount++) {
            boolean due = amount == 50 || amount == 7 || amount == 14 || amount == 57 || amount == 64;
            CHECK.holds("25: " + amount, mint.canPay(amount) == due);
        }
        for (int amount : new int[] {0, 100, -1, MIN, MAX}) {
            CHECK.fails("25: " + amount, Thrown.ARGUMENT, () -> mint.canPay(amount));
        }
        CHECK.holds("25: nothing is changed", mint.vaultCoins() == 4);
        CHECK.holds("25: no coins", !new LeafMint().canPay(1));
    }

    private static void promises26And27FewestCoins() {
        LeafMint mint = Mints.withDies(25, 1, 10, 1, 1, 1);
        mint.strike(0, 3);
        mint.strike(1, 4);
        mint.strike(2, 9);
        int[][] due = {{1, 1}, {9, 9}, {10, 1}, {30, 3}, {40, 4}, {25, 1}, {75, 3}, {99, 9}, {65, 5}};
        for (int[] pair : due) {
            CHECK.equal("26: " + pair[0], mint.fewestCoins(pair[0]), pair[1]);
            CHECK.equal("27: " + pair[0], mint.fewestCoinsBySets(pair[0]), pair[1]);
        }
        for (int amount : new int[] {0, 100, -1, MIN, MAX}) {
            CHECK.fails("26: " + amount, Thrown.ARGUMENT, () -> mint.fewestCoins(amount));
            CHECK.fails("27: " + amount, Thrown.ARGUMENT, () -> mint.fewestCoinsBySets(amount));
        }
        LeafMint poor = Mints.withDies(50, 1, 2, 1);
        poor.strike(1, 2);
        for (int amount : new int[] {1, 3, 6, 50, 64, 99}) {
            CHECK.fails("26: " + amount, Thrown.ELEMENT, () -> poor.fewestCoins(amount));
            CHECK.fails("27: " + amount, Thrown.ELEMENT, () -> poor.fewestCoinsBySets(amount));
        }
        LeafMint many = Mints.withDies(1, 1, 2, 1);
        Mints.strikeMany(many, 0, 28);
        Mints.strikeMany(many, 1, 12);
        CHECK.equal("26: all 40", many.fewestCoins(52), 40);
        CHECK.equal("27: all 40", many.fewestCoinsBySets(52), 40);
        CHECK.fails("26: one more", Thrown.ELEMENT, () -> many.fewestCoins(53));
        CHECK.fails("27: one more", Thrown.ELEMENT, () -> many.fewestCoinsBySets(53));

        LeafMint rich = Mints.withDies(50, 1);
        rich.strike(0, 2);
        rich.addDie(30, 1);
        rich.strike(1, 1);
        CHECK.equal("27: 80", rich.fewestCoinsBySets(80), 2);
        rich.pay(30);
        CHECK.fails("27: nothing stays of the sets", Thrown.ELEMENT, () -> rich.fewestCoinsBySets(80));
        CHECK.fails("26: nothing stays of the table", Thrown.ELEMENT, () -> rich.fewestCoins(80));
    }

    private static void promise28GreedyCoins() {
        LeafMint mint = Mints.withDies(1, 1, 25, 1, 10, 1);
        mint.strike(0, 5);
        mint.strike(1, 3);
        mint.strike(2, 4);
        CHECK.equal("28: 30 as 25 and five ones", mint.greedyCoins(30), 6);
        CHECK.fails("28: 31", Thrown.ELEMENT, () -> mint.greedyCoins(31));
        CHECK.equal("28: 31 can be paid", mint.fewestCoins(31), 4);
        CHECK.equal("28: 85", mint.greedyCoins(85), 4);
        CHECK.equal("28: 99 as 75, 20 and four ones", mint.greedyCoins(99), 9);
        CHECK.equal("28: 10", mint.greedyCoins(10), 1);
        for (int amount : new int[] {0, 100, -1, MIN, MAX}) {
            CHECK.fails("28: " + amount, Thrown.ARGUMENT, () -> mint.greedyCoins(amount));
        }
        CHECK.equal("28: nothing is changed", mint.vaultCoins(), 12);
        CHECK.fails("28: no coins", Thrown.ELEMENT, () -> new LeafMint().greedyCoins(1));
    }

    private static void promise29CoinsUsed() {
        LeafMint mint = Mints.withDies(1, 1, 25, 1, 10, 1, 50, 1);
        mint.strike(0, 5);
        mint.strike(1, 3);
        mint.strike(2, 4);
        CHECK.equal("29: 30, 25", mint.coinsUsed(30, 25), 0);
        CHECK.equal("29: 30, 10", mint.coinsUsed(30, 10), 3);
        CHECK.equal("29: 30, 1", mint.coinsUsed(30, 1), 0);
        CHECK.equal("29: 30, 50", mint.coinsUsed(30, 50), 0);
        CHECK.equal("29: 50, 25", mint.coinsUsed(50, 25), 2);
        CHECK.equal("29: 28, 1", mint.coinsUsed(28, 1), 3);
        CHECK.fails("29: no die", Thrown.ELEMENT, () -> mint.coinsUsed(30, 2));
        CHECK.fails("29: cannot be paid", Thrown.UNSUPPORTED, () -> mint.coinsUsed(9, 1));
        CHECK.fails("29: value before payment", Thrown.ELEMENT, () -> mint.coinsUsed(9, 2));
        for (int amount : new int[] {0, 100, -1, MIN, MAX}) {
            CHECK.fails("29: " + amount, Thrown.ARGUMENT, () -> mint.coinsUsed(amount, 1));
            CHECK.fails("29: amount before value", Thrown.ARGUMENT, () -> mint.coinsUsed(amount, 2));
        }
        CHECK.fails("29: value MIN", Thrown.ELEMENT, () -> mint.coinsUsed(1, MIN));
        CHECK.fails("29: value MAX", Thrown.ELEMENT, () -> mint.coinsUsed(1, MAX));
    }

    private static void promise30PayableAmounts() {
        LeafMint mint = Mints.withDies(50, 1, 7, 1, 1, 1);
        CHECK.equal("30: empty", mint.payableAmounts(), 0);
        mint.strike(0, 2);
        CHECK.equal("30: 50 alone, as 100 is too much", mint.payableAmounts(), 1);
        mint.strike(1, 2);
        CHECK.equal("30: 7, 14, 50, 57, 64", mint.payableAmounts(), 5);
        mint.strike(2, 9);
        mint.strike(1, 5);
        CHECK.equal("30: 1 to 58 and 50 to 99", mint.payableAmounts(), 99);
    }

    private static void promise31RecallGrams() {
        LeafMint mint = Mints.withDies(9, 1, 8, 9);
        mint.strike(0, 2);
        mint.strike(1, 2);
        CHECK.equal("31: A", mint.recallGrams(0), 20);
        mint.passYears(5);
        CHECK.equal("31: B", mint.recallGrams(0), 16);
        mint.passYears(5);
        CHECK.equal("31: C, not less than 0", mint.recallGrams(0), 14);
        CHECK.equal("31: nothing is changed", mint.vaultCoins(), 4);
        for (int year : new int[] {-1, 1, 10, 11, MIN, MAX}) {
            CHECK.equal("31: " + year, mint.recallGrams(year), 0);
        }
        CHECK.equal("31: as recall does", mint.recall(0), 14);
    }

    private static void promises32To36Totals() {
        LeafMint mint = Mints.withDies(9, 3, 8, 5);
        mint.strike(0, 4);
        mint.strike(1, 2);
        mint.pay(17);
        mint.passYears(5);
        mint.recall(0);
        mint.strike(0, 1);
        mint.pay(9);
        CHECK.equal("32: struck", mint.struckTotal(), 7);
        CHECK.equal("33: paid", mint.paidTotal(), 26);
        CHECK.equal("34: paid weight", mint.paidWeight(), 11);
        CHECK.equal("35: lost", mint.lostWeight(), 4);
        CHECK.equal("36: added", mint.addedWeight(), 297);
        mint.addLeaves(1);
        CHECK.equal("36: added", mint.addedWeight(), 298);
    }

    private static void promise37MeanWear() {
        CHECK.fails("37: no dies", Thrown.ARITHMETIC, () -> new LeafMint().meanWear());
        LeafMint mint = Mints.withDies(9, 3, 8, 1, 7, 1);
        CHECK.equal("37: 0", mint.meanWear(), 0.0);
        mint.strike(1, 7);
        mint.strike(0, 3);
        CHECK.equal("37: 10/3", mint.meanWear(), 10.0 / 3.0);
        mint.addDie(1, 1);
        CHECK.equal("37: 10/4", mint.meanWear(), 2.5);
    }

    private static void promise38GradeShare() {
        LeafMint mint = Mints.withDies(9, 1);
        CHECK.fails("38: empty", Thrown.ARITHMETIC, () -> mint.gradeShare('A'));
        CHECK.fails("38: grade before empty", Thrown.ARGUMENT, () -> mint.gradeShare('D'));
        Mints.strikeMany(mint, 0, 12);
        CHECK.equal("38: A", mint.gradeShare('A'), 10f / 12f);
        CHECK.equal("38: B", mint.gradeShare('B'), 2f / 12f);
        CHECK.equal("38: C", mint.gradeShare('C'), 0f);
        CHECK.fails("38: @", Thrown.ARGUMENT, () -> mint.gradeShare('@'));
        CHECK.fails("38: D", Thrown.ARGUMENT, () -> mint.gradeShare('D'));
    }

    private static void promise39IsConsistent() {
        LeafMint mint = new LeafMint();
        CHECK.holds("39: new", mint.isConsistent());
        mint.addDie(50, 9);
        mint.addDie(3, 1);
        mint.addLeaves(99);
        mint.strike(0, 3);
        Mints.strikeMany(mint, 1, 20);
        CHECK.holds("39: coins", mint.isConsistent());
        mint.pay(59);
        mint.passYears(7);
        mint.recall(0);
        CHECK.holds("39: paid and lost", mint.isConsistent());
        mint.undo();
        CHECK.holds("39: undone", mint.isConsistent());
    }

    // ---- promises 40 to 42

    private static void promise40RenderDie() {
        LeafMint mint = Mints.withDies(25, 7, 1, 1);
        mint.strike(0, 9);
        mint.strike(0, 3);
        CHECK.equal("40: length", mint.renderDie(0), 9);
        CHECK.equal("40: text", Mints.outputOf(mint), "0:25w7/12");
        CHECK.equal("40: length", mint.renderDie(1), 7);
        CHECK.equal("40: replaced", Mints.outputOf(mint), "1:1w1/0");
        for (int die : new int[] {-1, 2, MIN, MAX}) {
            CHECK.fails("40: " + die, Thrown.INDEX, () -> mint.renderDie(die));
        }
        CHECK.equal("40: kept", Mints.outputOf(mint), "1:1w1/0");
    }

    private static void promise41RenderVault() {
        LeafMint mint = Mints.withDies(5, 1, 25, 1, 10, 1, 1, 1);
        mint.renderDie(0);
        CHECK.equal("41: empty", mint.renderVault(), 0);
        CHECK.equal("41: empty", Mints.outputOf(mint), "");
        mint.strike(0, 9);
        mint.strike(0, 2);
        mint.strike(1, 2);
        mint.strike(3, 3);
        CHECK.equal("41: length", mint.renderVault(), 13);
        CHECK.equal("41: text", Mints.outputOf(mint), "25x2 5x11 1x3");
        mint.pay(50);
        CHECK.equal("41: length", mint.renderVault(), 8);
        CHECK.equal("41: text", Mints.outputOf(mint), "5x11 1x3");
        mint.pay(2);
        mint.pay(55);
        CHECK.equal("41: length", mint.renderVault(), 3);
        CHECK.equal("41: one coin", Mints.outputOf(mint), "1x1");
    }

    private static void promise42OutputAt() {
        LeafMint mint = Mints.withDies(5, 1);
        CHECK.fails("42: empty", Thrown.INDEX, () -> mint.outputAt(0));
        mint.renderDie(0);
        CHECK.equal("42: first", mint.outputAt(0), '0');
        CHECK.equal("42: last", mint.outputAt(6), '0');
        for (int index : new int[] {-1, 7, MIN, MAX}) {
            CHECK.fails("42: " + index, Thrown.INDEX, () -> mint.outputAt(index));
        }
        mint.strike(0, 1);
        CHECK.equal("42: the text is that of the render", mint.outputAt(6), '0');
    }

    // ---- promises 43 to 46

    private static void promise43Type() {
        LeafMint mint = new LeafMint();
        for (char character : new char[] {0, 31, 127, 255, 65535}) {
            CHECK.fails("43: " + (int) character, Thrown.ARGUMENT, () -> mint.type(character));
        }
        CHECK.equal("43: 32", mint.type(' '), 1);
        CHECK.equal("43: 126", mint.type('~'), 2);
        for (int length = 3; length <= 60; length++) {
            CHECK.equal("43: length", mint.type('x'), length);
        }
        CHECK.fails("43: full", Thrown.STATE, () -> mint.type('x'));
        CHECK.fails("43: argument before full", Thrown.ARGUMENT, () -> mint.type((char) 31));
        CHECK.fails("43: run", Thrown.ARGUMENT, mint::runScript);
        CHECK.equal("43: empty again", mint.type('x'), 1);
    }

    private static void promise44RunScript() {
        LeafMint mint = new LeafMint();
        CHECK.equal("44: seven", Mints.run(mint, "die 25 7;die 1 1;leaf 99;strike 0 3;strike 1 9;year;pay 27"), 7);
        CHECK.equal("44: dies", mint.dieCount(), 2);
        CHECK.equal("44: value", mint.dieValue(0), 25);
        CHECK.equal("44: weight", mint.coinWeight(0), 7);
        CHECK.equal("44: leaves", mint.leaves(), 99 - 21 - 9);
        CHECK.equal("44: year", mint.year(), 1);
        CHECK.equal("44: paid", mint.paidTotal(), 27);
        CHECK.equal("44: coins", mint.vaultCoins(), 9);
        CHECK.equal("44: two digits", Mints.run(mint, "year 12;recall 00;sharpen 1;die 07 3"), 4);
        CHECK.equal("44: year", mint.year(), 13);
        CHECK.equal("44: recalled", mint.vaultCoins(), 0);
        CHECK.equal("44: sharpened", mint.wear(1), 0);
        CHECK.equal("44: not sharpened", mint.wear(0), 3);
        CHECK.equal("44: leading zero", mint.dieValue(2), 7);
        CHECK.equal("44: twelve", Mints.run(mint, "year;year;year;year;year;year;year;year;year;year;year;year"), 12);
        CHECK.equal("44: year", mint.year(), 25);
        CHECK.fails("44: the buffer is empty", Thrown.ARGUMENT, mint::runScript);
        CHECK.equal("44: error position", mint.errorPosition(), 0);
    }

    private static void promise44RunScriptIsAllOrNothing() {
        LeafMint mint = Mints.withDies(5, 1);
        mint.strike(0, 3);
        int leaves = mint.leaves();
        String script = "leaf 5;year 3;strike 0 2;pay 10;die 7 1;sharpen 0;pay 99";
        CHECK.fails("44: fails", Thrown.STATE, () -> Mints.run(mint, script));
        CHECK.equal("44: leaves", mint.leaves(), leaves);
        CHECK.equal("44: year", mint.year(), 0);
        CHECK.equal("44: coins", mint.vaultCoins(), 3);
        CHECK.equal("44: dies", mint.dieCount(), 1);
        CHECK.equal("44: wear", mint.wear(0), 3);
        CHECK.equal("44: paid", mint.paidTotal(), 0);
        CHECK.equal("44: struck", mint.struckTotal(), 3);
        CHECK.equal("44: command", mint.failedCommand(), 6);
        CHECK.equal("44: buffer empty", mint.type('y'), 1);
        CHECK.fails("44: no form", Thrown.ARGUMENT, mint::runScript);
        CHECK.equal("44: a malformed script has no failed command", mint.failedCommand(), 6);
        CHECK.fails("44: form before commands", Thrown.ARGUMENT, () -> Mints.run(mint, "pay 99;pay"));
        CHECK.equal("44: nothing has run", mint.failedCommand(), 6);
    }

    private static void promise45ErrorPosition() {
        CHECK.fails("45: none yet", Thrown.ELEMENT, () -> new LeafMint().errorPosition());
        String[] scripts = {
            "", "x", ";", " year", "Year", "d", "die", "die ", "die  5", "die 5", "die 5 ", "die 55", "die 555 1",
            "die 5 x", "die 5 12", "die 5 1 ", "die 5 1;", "die 5;1", "die x", "s", "sx", "sh", "st", "str", "shr",
            "sharpen", "sharpen ", "sharpen x", "sharpen 12", "strike", "strike 1", "strike 12", "strike 1 ",
            "strike 1  2", "strike 1 22", "strike x", "leaf", "leaf 5x", "leaf 123", "leaf ;", "leap", "year ",
            "year x", "year  5", "years", "year 123", "year;", "year;;", "year; year", "year ;", "recall", "recall 1 2",
            "recall -1", "rx", "pay", "pay ", "pay 100", "pay1", "px", "year;x", "year;dix", "year 5;pay 5;sharpex",
            "year;year;year;year;year;year;year;year;year;year;year;year;", "die 5 1;strike 0 1;pay 5;~"
        };
        int[] positions = {
            0, 0, 0, 0, 0, 1, 3, 4, 4, 5, 6, 6, 6,
            6, 7, 7, 8, 5, 4, 1, 1, 2, 2, 3, 2,
            7, 8, 8, 9, 6, 8, 8, 9,
            9, 10, 7, 4, 6, 7, 5, 3, 5,
            5, 5, 4, 7, 5, 5, 5, 5, 6, 8,
            7, 1, 3, 4, 6, 3, 1, 5, 7, 19,
            60, 25
        };
        CHECK.equal("45: the test's rows", scripts.length, positions.length);
        for (int i = 0; i < scripts.length; i++) {
            LeafMint mint = new LeafMint();
            String script = scripts[i];
            CHECK.fails("45: \"" + script + "\"", Thrown.ARGUMENT, () -> Mints.run(mint, script));
            CHECK.equal("45: \"" + script + "\"", mint.errorPosition(), positions[i]);
        }
    }

    private static void promise45ErrorPositionKept() {
        LeafMint longer = new LeafMint();
        Mints.run(longer, "die 12 3;year 15;year;year");
        for (String shorter : new String[] {"die 12 ", "die 12", "die 1", "di", "die 12 3;", "die 12 3;year 15;ye"}) {
            String what = "45: \"" + shorter + "\" after a longer script";
            CHECK.fails(what, Thrown.ARGUMENT, () -> Mints.run(longer, shorter));
            CHECK.equal(what, longer.errorPosition(), shorter.length());
        }

        LeafMint mint = new LeafMint();
        CHECK.fails("45: first", Thrown.ARGUMENT, () -> Mints.run(mint, "year 5x"));
        CHECK.equal("45: first", mint.errorPosition(), 6);
        Mints.run(mint, "year 5");
        CHECK.equal("45: kept by a good script", mint.errorPosition(), 6);
        mint.undo();
        CHECK.equal("45: kept by undo", mint.errorPosition(), 6);
        CHECK.fails("45: failed", Thrown.STATE, () -> Mints.run(mint, "pay 5"));
        CHECK.equal("45: kept by a failed script", mint.errorPosition(), 6);
        mint.save();
        CHECK.fails("45: second", Thrown.ARGUMENT, () -> Mints.run(mint, "yeast"));
        mint.restore();
        CHECK.equal("45: the latest, kept by restore", mint.errorPosition(), 3);
    }

    private static void promise46FailedCommand() {
        LeafMint mint = new LeafMint();
        CHECK.fails("46: none yet", Thrown.ELEMENT, mint::failedCommand);
        String[] scripts = {
            "die 0 1", "die 51 1", "die 5 0", "die 5 1;die 5 2", "die 1 1;die 2 1;die 3 1;die 4 1;die 5 1;die 6 1",
            "die 5 1;sharpen 0", "sharpen 9", "leaf 0", "leaf 1;leaf 00", "strike 0 1", "die 5 1;strike 0 1",
            "die 5 1;leaf 9;strike 0 0", "year 0", "year 21", "year;year 99", "recall 0", "year;recall 2", "pay 0",
            "pay 1", "die 5 1;leaf 9;strike 0 3;pay 15;pay 5",
            "die 5 1;leaf 99;strike 0 9;strike 0 9;strike 0 9;strike 0 4"
        };
        int[] commands = {0, 0, 0, 1, 5, 1, 0, 0, 1, 0, 1, 2, 0, 0, 1, 0, 1, 0, 0, 4, 5};
        CHECK.equal("46: the test's rows", scripts.length, commands.length);
        for (int i = 0; i < scripts.length; i++) {
            String script = scripts[i];
            CHECK.fails("46: \"" + script + "\"", Thrown.STATE, () -> Mints.run(mint, script));
            CHECK.equal("46: \"" + script + "\"", mint.failedCommand(), commands[i]);
            CHECK.equal("46: nothing stays of \"" + script + "\"", mint.dieCount() + mint.leaves() + mint.year(), 0);
        }
        CHECK.fails("46: none without form", Thrown.ELEMENT, mint::errorPosition);
        Mints.run(mint, "year");
        CHECK.equal("46: kept by a good script", mint.failedCommand(), 5);
        mint.undo();
        CHECK.equal("46: kept by undo", mint.failedCommand(), 5);
        mint.save();
        mint.restore();
        CHECK.equal("46: kept by restore", mint.failedCommand(), 5);
    }

    // ---- promises 47 to 49

    private static void promise47Undo() {
        LeafMint mint = new LeafMint();
        CHECK.fails("47: nothing", Thrown.STATE, mint::undo);
        for (int i = 1; i <= 10; i++) {
            mint.addLeaves(i);
        }
        int leaves = 55;
        for (int i = 10; i >= 3; i--) {
            CHECK.equal("47: can still be undone", mint.undo(), i - 3);
            leaves -= i;
            CHECK.equal("47: leaves", mint.leaves(), leaves);
        }
        CHECK.fails("47: the latest 8 alone", Thrown.STATE, mint::undo);
        CHECK.equal("47: leaves", mint.leaves(), 3);

        mint.addLeaves(1);
        mint.addLeaves(2);
        CHECK.equal("47: one left", mint.undo(), 1);
        mint.addLeaves(5);
        CHECK.equal("47: leaves", mint.leaves(), 9);
        CHECK.equal("47: undone changes are gone", mint.undo(), 1);
        CHECK.equal("47: leaves", mint.leaves(), 4);
        CHECK.equal("47: none left", mint.undo(), 0);
        CHECK.fails("47: nothing", Thrown.STATE, mint::undo);
    }

    private static void promise47UndoCoversAllButTheExcepted() {
        String before = Mints.allOf(nineCoins());
        String[] scripts = {"die 5 1", "sharpen 0", "leaf 9", "strike 0 2", "year 6", "year 1", "recall 0", "pay 21",
            "pay 7;year 5;recall 0;sharpen 0;die 1 1"};
        for (String script : scripts) {
            LeafMint mint = nineCoins();
            Mints.run(mint, script);
            mint.undo();
            CHECK.equal("47: undo of " + script, Mints.allOf(mint), before);
        }
        LeafMint mint = nineCoins();
        mint.addDie(5, 1);
        mint.sharpen(0);
        mint.addLeaves(9);
        mint.strike(1, 1);
        mint.passYears(20);
        mint.recall(0);
        mint.pay(5);
        mint.passYears(1);
        for (int left = 7; left >= 0; left--) {
            CHECK.equal("47: each is one change", mint.undo(), left);
        }
        CHECK.equal("47: all undone", Mints.allOf(mint), before);

        mint.addLeaves(1);
        mint.renderDie(0);
        mint.type('y');
        mint.undo();
        CHECK.equal("47: the output is kept", mint.outputAt(2), '7');
        CHECK.equal("47: the buffer is kept", mint.type('e'), 2);
    }

    /** Nine coins of year 0, in year 5. */
    private static LeafMint nineCoins() {
        LeafMint mint = Mints.withDies(7, 3);
        mint.strike(0, 9);
        mint.passYears(5);
        return mint;
    }

    private static void promise47RefusedCallsAreNoChanges() {
        LeafMint mint = Mints.withDies(7, 3);
        mint.strike(0, 2);
        int due = Mints.changesToUndo(mint);
        CHECK.equal("47: changes", due, 5);
        LeafMint other = Mints.withDies(7, 3);
        other.strike(0, 2);
        CHECK.fails("47: addDie", Thrown.UNSUPPORTED, () -> other.addDie(7, 1));
        CHECK.fails("47: sharpen", Thrown.INDEX, () -> other.sharpen(1));
        CHECK.fails("47: addLeaves", Thrown.ARGUMENT, () -> other.addLeaves(0));
        CHECK.fails("47: strike", Thrown.ARGUMENT, () -> other.strike(0, 0));
        CHECK.fails("47: passYears", Thrown.ARGUMENT, () -> other.passYears(0));
        CHECK.fails("47: recall", Thrown.ARGUMENT, () -> other.recall(1));
        CHECK.fails("47: pay", Thrown.UNSUPPORTED, () -> other.pay(1));
        CHECK.fails("47: runScript", Thrown.STATE, () -> Mints.run(other, "year;pay 1"));
        CHECK.fails("47: runScript", Thrown.ARGUMENT, () -> Mints.run(other, "year;"));
        other.canPay(7);
        other.recallGrams(0);
        other.coinsUsed(14, 7);
        other.renderVault();
        other.save();
        CHECK.equal("47: changes", Mints.changesToUndo(other), 5);
    }

    private static void promise48Save() {
        LeafMint mint = Mints.withDies(7, 3);
        CHECK.equal("48: no coins", mint.save(), 0);
        mint.strike(0, 2);
        CHECK.equal("48: two coins", mint.save(), 2);
        mint.strike(0, 3);
        CHECK.equal("48: the earlier one is replaced", mint.restore(), 2);
        CHECK.equal("48: coins", mint.vaultCoins(), 2);
    }

    private static void promise49Restore() {
        LeafMint mint = Mints.withDies(7, 3);
        CHECK.fails("49: no snapshot", Thrown.STATE, mint::restore);
        mint.strike(0, 9);
        mint.passYears(3);
        String saved = Mints.allOf(mint);
        mint.save();
        mint.undo();
        mint.undo();
        CHECK.equal("49: undo leaves the snapshot alone", mint.restore(), 9);
        CHECK.equal("49: restored", Mints.allOf(mint), saved);
        CHECK.fails("49: nothing to undo", Thrown.STATE, mint::undo);
        mint.addDie(5, 1);
        mint.sharpen(0);
        mint.addLeaves(3);
        mint.pay(14);
        mint.passYears(20);
        mint.recall(0);
        mint.renderVault();
        mint.renderDie(1);
        mint.type('q');
        CHECK.equal("49: the snapshot is kept", mint.restore(), 9);
        CHECK.equal("49: restored", Mints.allOf(mint), saved);
        CHECK.fails("49: nothing to undo", Thrown.STATE, mint::undo);
        CHECK.equal("49: the output is kept", mint.outputAt(0), '1');
        CHECK.equal("49: the buffer is kept", mint.type('q'), 2);
        mint.addLeaves(4);
        CHECK.equal("49: changes after it can be undone", mint.undo(), 0);
        CHECK.equal("49: restored", Mints.allOf(mint), saved);
    }
}
