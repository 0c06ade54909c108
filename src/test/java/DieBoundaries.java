import java.util.function.ObjIntConsumer;
import java.util.function.Supplier;

/** Tests for what the document says of dies and of striking: at its boundaries, and a step to each side. */
final class DieBoundaries {
    private DieBoundaries() {
    }

    static void addTo(Sentences document) {
        leavesAndDies(document);
        coins(document);
        promise1NewObject(document);
        promise2AddDie(document);
        promise3Sharpen(document);
        promise4AddLeaves(document);
        promise5Strike(document);
        promises9To12Dies(document);
        promise13NextGrade(document);
        promise14DieByWear(document);
        promise40RenderDie(document);
    }

    // ---- the terms

    private static void leavesAndDies(Sentences document) {
        String section = "Leaves and dies";
        document.test(section, "The mint has a stock of leaves in grams, initially 0", check -> {
            check.equal("at first", new LeafMint().leaves(), 0);
            check.refused("1 gram of 0", Thrown.STATE, () -> Mints.stocked(0, 5, 1), mint -> mint.strike(0, 1));
            LeafMint mint = Mints.stocked(1, 5, 1);
            check.equal("1 gram", mint.leaves(), 1);
            mint.strike(0, 1);
            check.equal("the last gram is struck", mint.leaves(), 0);
        });
        document.test(section, "At most 5 dies have the indices 0 to n - 1 in the order in which they were"
                + " added",
                DieBoundaries::indicesOfFiveDies);
        document.test(section, "dies are never removed", check -> {
            LeafMint mint = Mints.withDies(5, 1, 7, 1);
            Mints.strikeMany(mint, 0, 30);
            mint.recall(0);
            mint.passYears(20);
            check.equal("a worn die without coins counts", mint.dieCount(), 2);
            check.equal("it has its index", mint.dieValue(0), 5);
            check.equal("so has the other", mint.dieValue(1), 7);
            check.refused("it has its value", Thrown.UNSUPPORTED, () -> Mints.worn(30), other -> other.addDie(5, 1));
            mint.sharpen(0);
            check.equal("it can be used again", mint.strike(0, 1), 1);
            check.equal("the next index", mint.addDie(9, 1), 2);
        });
        document.test(section, "A die has a value from 1 to 50, a coin weight from 1 to 9 grams, and a wear"
                + " from 0 to 30, initially 0", DieBoundaries::rangesOfADie);
        document.test(section, "No two dies have the same value", check -> {
            Supplier<LeafMint> made = () -> Mints.withDies(25, 7, 1, 1, 50, 7);
            for (int value : new int[] {25, 1, 50}) {
                check.refused(value + " again", Thrown.UNSUPPORTED, made, mint -> mint.addDie(value, 7));
                check.refused(value + " with another weight", Thrown.UNSUPPORTED, made, mint -> mint.addDie(value, 8));
            }
            for (int value : new int[] {24, 26, 2, 49}) {
                check.equal("the weight of another may be the same", made.get().addDie(value, 7), 3);
            }
        });
    }

    private static void indicesOfFiveDies(Check check) {
        int[] values = {30, 2, 50, 1, 7};
        LeafMint mint = new LeafMint();
        for (int dies = 0; dies < 5; dies++) {
            check.equal("the next index", mint.addDie(values[dies], 9 - dies), dies);
            check.equal("the number of dies", mint.dieCount(), dies + 1);
            for (int die = 0; die <= dies; die++) {
                check.equal("the order of values", mint.dieValue(die), values[die]);
                check.equal("the order of weights", mint.coinWeight(die), 9 - die);
            }
            int next = dies + 1;
            check.fails("no index n yet", Thrown.INDEX, () -> mint.dieValue(next));
            check.fails("no index -1", Thrown.INDEX, () -> mint.dieValue(-1));
        }
        check.fails("a sixth die", Thrown.STATE, () -> mint.addDie(20, 1));
        check.equal("five dies", mint.dieCount(), 5);
        check.fails("no index 5", Thrown.INDEX, () -> mint.dieValue(5));
    }

    private static void rangesOfADie(Check check) {
        check.range("value", Thrown.ARGUMENT, 1, 50, LeafMint::new, (mint, value) -> mint.addDie(value, 3));
        check.range("weight", Thrown.ARGUMENT, 1, 9, LeafMint::new, (mint, weight) -> mint.addDie(3, weight));
        LeafMint mint = Mints.withDies(50, 1, 1, 9);
        check.equal("the greatest value", mint.dieValue(0), 50);
        check.equal("the least weight", mint.coinWeight(0), 1);
        check.equal("the least value", mint.dieValue(1), 1);
        check.equal("the greatest weight", mint.coinWeight(1), 9);
        for (int wear = 0; wear <= 30; wear++) {
            check.equal("wear", Mints.worn(wear).wear(0), wear);
        }
        check.refused("wear 31", Thrown.UNSUPPORTED, () -> Mints.worn(30), worn -> worn.strike(0, 1));
    }

    private static void coins(Sentences document) {
        String section = "Coins";
        document.test(section, "A coin has a value and a weight, which are those of its die, the year in which"
                + " it was struck, and a grade, which is A, B or C", check -> {
            LeafMint mint = Mints.withDies(50, 1, 1, 9);
            mint.strike(0, 1);
            mint.passYears(1);
            mint.strike(1, 2);
            check.equal("value 50", mint.coinsOfValue(50), 1);
            check.equal("value 1", mint.coinsOfValue(1), 2);
            check.equal("values", mint.vaultValue(), 52);
            check.equal("weights", mint.vaultWeight(), 19);
            check.equal("year 0", mint.coinsOfYear(0), 1);
            check.equal("year 1", mint.coinsOfYear(1), 2);
            check.equal("grade A", mint.coinsOfGrade('A'), 3);
        });
        document.test(section, "At most 40 coins are in the vault", check -> {
            check.equal("a 39th", Mints.withCoins(38).strike(1, 1), 39);
            check.equal("a 40th", Mints.withCoins(39).strike(1, 1), 40);
            check.equal("nine on 31", Mints.withCoins(31).strike(1, 9), 40);
            check.refused("a 41st", Thrown.STATE, () -> Mints.withCoins(40), mint -> mint.strike(1, 1));
            check.refused("two on 39", Thrown.STATE, () -> Mints.withCoins(39), mint -> mint.strike(1, 2));
            check.refused("nine on 32", Thrown.STATE, () -> Mints.withCoins(32), mint -> mint.strike(1, 9));
            LeafMint paid = Mints.withCoins(40);
            paid.pay(1);
            check.equal("a 40th again", paid.strike(1, 1), 40);
        });
        document.test(section, "Striking a coin takes its weight from the stock, gives it the grade A if the"
                + " wear of the die is less than 10, B if it is from 10 to 19, and C if it is at least 20, and"
                + " then increases the wear by 1", DieBoundaries::gradesByWear);
    }

    private static void gradesByWear(Check check) {
        for (int wear : new int[] {0, 1, 8, 9, 10, 11, 18, 19, 20, 21, 28, 29}) {
            LeafMint mint = Mints.worn(wear);
            char grade = wear < 10 ? 'A' : wear < 20 ? 'B' : 'C';
            int before = mint.coinsOfGrade(grade);
            mint.strike(0, 1);
            check.equal("grade at wear " + wear, mint.coinsOfGrade(grade), before + 1);
            check.equal("wear after " + wear, mint.wear(0), wear + 1);
            check.equal("leaves after " + wear, mint.leaves(), 297 - wear - 1);
        }
        for (int wear = 2; wear <= 20; wear += 9) {
            LeafMint mint = Mints.worn(wear);
            mint.strike(0, 9);
            check.equal("A in one call from wear " + wear, mint.coinsOfGrade('A'), 10);
            check.equal("B in one call from wear " + wear, mint.coinsOfGrade('B'), Math.min(wear - 1, 10));
            check.equal("C in one call from wear " + wear, mint.coinsOfGrade('C'), Math.max(wear - 11, 0));
        }
        LeafMint heavy = Mints.withDies(5, 9);
        heavy.strike(0, 9);
        check.equal("leaves after 81 grams", heavy.leaves(), 297 - 81);
    }

    // ---- promises 1 to 5

    private static void promise1NewObject(Sentences document) {
        document.test("1", "Creates a mint without leaves, dies and coins in year 0", check -> {
            LeafMint mint = new LeafMint();
            check.equal("all counts", Mints.allOf(mint), "0/0 0 0 0 0 0 0 0 0 0 0 0 0 0");
            check.equal("the value of no coins", mint.vaultValue() + mint.vaultValueByDies(), 0);
            check.equal("amounts", mint.payableAmounts(), 0);
            check.fails("no die", Thrown.INDEX, () -> mint.dieValue(0));
            check.fails("no coin", Thrown.ELEMENT, () -> mint.recall(0));
            check.fails("no year 1", Thrown.ARGUMENT, () -> mint.recall(1));
            check.fails("nothing to undo", Thrown.STATE, mint::undo);
            check.fails("no snapshot", Thrown.STATE, mint::restore);
            mint.addDie(5, 1);
            mint.passYears(1);
            LeafMint second = new LeafMint();
            check.equal("a second object has no die of the first", second.dieCount(), 0);
            check.equal("nor its year", second.year(), 0);
        });
    }

    private static void promise2AddDie(Sentences document) {
        document.test("2", "Adds a die", check -> {
            LeafMint mint = Mints.worn(3);
            mint.addDie(50, 9);
            check.equal("one more", mint.dieCount(), 2);
            check.equal("its value", mint.dieValue(1), 50);
            check.equal("its weight", mint.coinWeight(1), 9);
            check.equal("its wear", mint.wear(1), 0);
            check.equal("no coin of it", mint.coinsOfValue(50), 0);
            check.equal("the other's wear", mint.wear(0), 3);
        });
        document.test("2", "Returns the index of the die", check -> {
            LeafMint mint = new LeafMint();
            for (int die = 0; die < 5; die++) {
                check.equal("the index", mint.addDie(50 - 7 * die, 1), die);
            }
        });
        document.test("2", "Throws `IllegalArgumentException` if value is not between 1 and 50, or weight is"
                + " not between 1 and 9", check -> {
            Supplier<LeafMint> made = () -> Mints.withDies(30, 1, 20, 1);
            check.range("value", Thrown.ARGUMENT, 1, 50, made, (mint, value) -> mint.addDie(value, 9));
            check.range("weight", Thrown.ARGUMENT, 1, 9, made, (mint, weight) -> mint.addDie(50, weight));
            check.refused("both", Thrown.ARGUMENT, made, mint -> mint.addDie(0, 0));
        });
        document.test("2", "Throws `IllegalStateException` if there are 5 dies", check -> {
            check.equal("3 dies", usedDies(3).addDie(50, 9), 3);
            check.equal("4 dies", usedDies(4).addDie(50, 9), 4);
            check.refused("5 dies", Thrown.STATE, () -> usedDies(5), mint -> mint.addDie(50, 9));
        });
        document.test("2", "Throws `UnsupportedOperationException` if another die has this value", check -> {
            Supplier<LeafMint> made = () -> Mints.withDies(1, 1, 25, 7, 50, 9);
            for (int value : new int[] {1, 25, 50}) {
                check.refused("value " + value, Thrown.UNSUPPORTED, made, mint -> mint.addDie(value, 3));
            }
            for (int value : new int[] {2, 24, 26, 49}) {
                check.equal("value " + value, made.get().addDie(value, 3), 3);
            }
        });
    }

    private static void promise3Sharpen(Sentences document) {
        document.test("3", "Sharpens a die, whose wear becomes 0", check -> {
            for (int wear : new int[] {1, 2, 29, 30}) {
                LeafMint mint = Mints.worn(wear);
                mint.sharpen(0);
                check.equal("wear after " + wear, mint.wear(0), 0);
                check.equal("the coins stay", mint.vaultCoins(), wear);
            }
            LeafMint two = usedDies(2);
            two.sharpen(1);
            check.equal("the other die's wear stays", two.wear(0), 3);
        });
        document.test("3", "Returns the wear before the call", check -> {
            for (int wear : new int[] {1, 2, 29, 30}) {
                check.equal("wear", Mints.worn(wear).sharpen(0), wear);
            }
        });
        noSuchDie(document, "3", LeafMint::sharpen);
        document.test("3", "Throws `IllegalStateException` if the wear of the die is 0", check -> {
            check.refused("wear 0", Thrown.STATE, () -> Mints.worn(0), mint -> mint.sharpen(0));
            check.equal("wear 1", Mints.worn(1).sharpen(0), 1);
            LeafMint again = Mints.worn(1);
            again.sharpen(0);
            check.fails("sharpened already", Thrown.STATE, () -> again.sharpen(0));
            LeafMint other = Mints.withDies(5, 1, 7, 1);
            other.strike(0, 1);
            check.fails("wear 0 beside a worn die", Thrown.STATE, () -> other.sharpen(1));
        });
    }

    private static void promise4AddLeaves(Sentences document) {
        document.test("4", "Adds leaves to the stock", check -> {
            for (int grams : new int[] {1, 99}) {
                LeafMint mint = Mints.stocked(0);
                mint.addLeaves(grams);
                check.equal("stock", mint.leaves(), grams);
                mint.addLeaves(grams);
                check.equal("stock with more", mint.leaves(), 2 * grams);
                check.equal("added", mint.addedWeight(), 2 * grams);
            }
        });
        document.test("4", "Returns the stock after the call", check -> {
            check.equal("1 on 0", Mints.stocked(0).addLeaves(1), 1);
            check.equal("99 on 0", Mints.stocked(0).addLeaves(99), 99);
            check.equal("1 on 998", Mints.stocked(998).addLeaves(1), 999);
            LeafMint mint = Mints.worn(7);
            check.equal("of what is left", mint.addLeaves(1), 297 - 7 + 1);
        });
        document.test("4", "Throws `IllegalArgumentException` if grams is not between 1 and 99", check -> {
            check.range("grams", Thrown.ARGUMENT, 1, 99, () -> Mints.stocked(0), LeafMint::addLeaves);
            check.range("grams on 900", Thrown.ARGUMENT, 1, 99, () -> Mints.stocked(900), LeafMint::addLeaves);
        });
        document.test("4", "Throws `IllegalStateException` if the stock would be greater than 999", check -> {
            check.equal("998", Mints.stocked(997).addLeaves(1), 998);
            check.equal("999", Mints.stocked(998).addLeaves(1), 999);
            check.equal("999 by 99", Mints.stocked(900).addLeaves(99), 999);
            check.refused("1000", Thrown.STATE, () -> Mints.stocked(999), mint -> mint.addLeaves(1));
            check.refused("1000 by 2", Thrown.STATE, () -> Mints.stocked(998), mint -> mint.addLeaves(2));
            check.refused("1000 by 99", Thrown.STATE, () -> Mints.stocked(901), mint -> mint.addLeaves(99));
            check.refused("1098", Thrown.STATE, () -> Mints.stocked(999), mint -> mint.addLeaves(99));
            check.refused("beyond 999 already", Thrown.STATE, YearBoundaries::beyond999, mint -> mint.addLeaves(1));
            LeafMint struck = Mints.stocked(999, 5, 9);
            struck.strike(0, 1);
            check.equal("it is the stock that counts, not all that was added", struck.addLeaves(9), 999);
        });
    }

    private static void promise5Strike(Sentences document) {
        document.test("5", "Strikes coins", check -> {
            for (int count : new int[] {1, 2, 8, 9}) {
                LeafMint mint = usedDies(2);
                mint.strike(1, count);
                check.equal("coins", mint.vaultCoins(), 6 + count);
                check.equal("coins of the die", mint.coinsOfValue(11), 3 + count);
                check.equal("wear", mint.wear(1), 3 + count);
                check.equal("wear of the other", mint.wear(0), 3);
                check.equal("struck", mint.struckTotal(), 6 + count);
                check.equal("leaves", mint.leaves(), 297 - 3 - 6 - 2 * count);
            }
        });
        document.test("5", "Returns the number of coins in the vault after the call", check -> {
            check.equal("the first", Mints.withCoins(0).strike(0, 1), 1);
            check.equal("nine", Mints.withCoins(0).strike(0, 9), 9);
            check.equal("of both dies", Mints.withCoins(22).strike(0, 2), 24);
            check.equal("the last", Mints.withCoins(39).strike(1, 1), 40);
            LeafMint paid = Mints.withCoins(3);
            paid.pay(50);
            check.equal("without a paid one", paid.strike(1, 1), 3);
        });
        noSuchDie(document, "5", (mint, die) -> mint.strike(die, 1));
        document.test("5", "Throws `IllegalArgumentException` if count is not between 1 and 9", check ->
                check.range("count", Thrown.ARGUMENT, 1, 9, () -> usedDies(2), (mint, count) -> mint.strike(1, count)));
        document.test("5", "Throws `IllegalStateException` if the stock is too small, or there would be more"
                + " than 40 coins in the vault", DieBoundaries::strikeWithoutStockOrRoom);
        document.test("5", "Throws `UnsupportedOperationException` if the wear of the die would be greater than"
                + " 30",
                check -> {
            check.equal("wear 29", Mints.worn(28).strike(0, 1), 29);
            check.equal("wear 30", Mints.worn(29).strike(0, 1), 30);
            check.equal("wear 30 by nine", Mints.worn(21).strike(0, 9), 30);
            check.refused("wear 31", Thrown.UNSUPPORTED, () -> Mints.worn(30), mint -> mint.strike(0, 1));
            check.refused("wear 31 by two", Thrown.UNSUPPORTED, () -> Mints.worn(29), mint -> mint.strike(0, 2));
            check.refused("wear 31 by nine", Thrown.UNSUPPORTED, () -> Mints.worn(22), mint -> mint.strike(0, 9));
            check.refused("wear 39", Thrown.UNSUPPORTED, () -> Mints.worn(30), mint -> mint.strike(0, 9));
            LeafMint sharp = Mints.worn(30);
            sharp.sharpen(0);
            check.equal("a sharpened die", sharp.strike(0, 9), 39);
        });
    }

    private static void strikeWithoutStockOrRoom(Check check) {
        int[][] weightAndCount = {{1, 1}, {1, 9}, {9, 1}, {9, 9}, {4, 3}};
        for (int[] pair : weightAndCount) {
            int needed = pair[0] * pair[1];
            String what = pair[1] + " coins of " + pair[0] + " grams with ";
            check.refused(what + (needed - 1), Thrown.STATE, () -> Mints.stocked(needed - 1, 5, pair[0]),
                    mint -> mint.strike(0, pair[1]));
            for (int more = 0; more <= 1; more++) {
                LeafMint mint = Mints.stocked(needed + more, 5, pair[0]);
                check.equal(what + (needed + more), mint.strike(0, pair[1]), pair[1]);
                check.equal("what is left", mint.leaves(), more);
            }
        }
        check.equal("39 coins", Mints.withCoins(30).strike(1, 9), 39);
        check.equal("40 coins", Mints.withCoins(31).strike(1, 9), 40);
        check.refused("41 coins", Thrown.STATE, () -> Mints.withCoins(32), mint -> mint.strike(1, 9));
        check.refused("41 coins by one", Thrown.STATE, () -> Mints.withCoins(40), mint -> mint.strike(0, 1));
    }

    // ---- promises 9 to 14, and 40

    private static void promises9To12Dies(Sentences document) {
        document.test("9", "Returns the number of dies", check -> {
            for (int dies = 0; dies <= 5; dies++) {
                check.equal("dies", usedDies(dies).dieCount(), dies);
            }
        });
        document.test("10", "Returns the value of a die", check -> {
            LeafMint mint = Mints.withDies(50, 1, 1, 9, 2, 3, 49, 8, 25, 5);
            int[] values = {50, 1, 2, 49, 25};
            for (int die = 0; die < 5; die++) {
                check.equal("die " + die, mint.dieValue(die), values[die]);
            }
        });
        noSuchDie(document, "10", LeafMint::dieValue);
        document.test("11", "Returns the coin weight of a die", check -> {
            LeafMint mint = Mints.withDies(50, 1, 1, 9, 2, 3, 49, 8, 25, 5);
            int[] weights = {1, 9, 3, 8, 5};
            for (int die = 0; die < 5; die++) {
                check.equal("die " + die, mint.coinWeight(die), weights[die]);
            }
        });
        noSuchDie(document, "11", LeafMint::coinWeight);
        document.test("12", "Returns the wear of a die", check -> {
            LeafMint mint = Mints.withDies(50, 1, 1, 9);
            check.equal("new", mint.wear(1), 0);
            Mints.strikeMany(mint, 0, 30);
            check.equal("the greatest", mint.wear(0), 30);
            check.equal("the other", mint.wear(1), 0);
            mint.pay(50);
            mint.passYears(1);
            check.equal("coins and years do not count", mint.wear(0), 30);
            mint.sharpen(0);
            check.equal("sharpened", mint.wear(0), 0);
        });
        noSuchDie(document, "12", LeafMint::wear);
    }

    private static void promise13NextGrade(Sentences document) {
        document.test("13", "Returns the grade that the next coin of a die would get", check -> {
            int[] wears = {0, 1, 8, 9, 10, 11, 18, 19, 20, 21, 28, 29};
            for (int i = 0; i < wears.length; i++) {
                check.equal("wear " + wears[i], Mints.worn(wears[i]).nextGrade(0), "AAAABBBBCCCC".charAt(i));
            }
            LeafMint sharp = Mints.worn(30);
            sharp.sharpen(0);
            check.equal("sharpened", sharp.nextGrade(0), 'A');
        });
        noSuchDie(document, "13", LeafMint::nextGrade);
        document.test("13", "Throws `IllegalStateException` if the wear of the die is 30", check -> {
            check.equal("wear 29", Mints.worn(29).nextGrade(0), 'C');
            check.refused("wear 30", Thrown.STATE, () -> Mints.worn(30), mint -> mint.nextGrade(0));
        });
    }

    private static void promise14DieByWear(Sentences document) {
        document.test("14", "Returns the die at a rank when dies are sorted by wear in descending order, then"
                + " by value in descending order", check -> {
            LeafMint mint = Mints.withDies(20, 1, 50, 1, 1, 1, 49, 1, 2, 1);
            checkRanks(check, "all new", mint, 1, 3, 0, 4, 2);
            mint.strike(2, 1);
            checkRanks(check, "one more wear goes before any value", mint, 2, 1, 3, 0, 4);
            mint.strike(1, 1);
            checkRanks(check, "the same wear", mint, 1, 2, 3, 0, 4);
            mint.strike(4, 2);
            checkRanks(check, "one more again", mint, 4, 1, 2, 3, 0);
            mint.strike(2, 1);
            checkRanks(check, "values 2 and 1 with the same wear", mint, 4, 2, 1, 3, 0);
            mint.sharpen(2);
            checkRanks(check, "sharpened", mint, 4, 1, 3, 0, 2);
        });
        document.test("14", "- `rank`: the rank, counted from 0", check -> {
            LeafMint mint = Mints.withDies(20, 1, 50, 1);
            check.equal("the first", mint.dieByWear(0), 1);
            check.equal("the second", mint.dieByWear(1), 0);
            check.equal("of one", Mints.worn(30).dieByWear(0), 0);
        });
        document.test("14", "Throws `NoSuchElementException` if there is no such rank", check -> {
            check.refused("rank 0 of none", Thrown.ELEMENT, LeafMint::new, mint -> mint.dieByWear(0));
            for (int dies : new int[] {1, 2, 5}) {
                check.range(dies + " dies, rank", Thrown.ELEMENT, 0, dies - 1, () -> usedDies(dies),
                        LeafMint::dieByWear);
            }
        });
    }

    private static void checkRanks(Check check, String what, LeafMint mint, int... dies) {
        for (int rank = 0; rank < dies.length; rank++) {
            check.equal(what + ", rank " + rank, mint.dieByWear(rank), dies[rank]);
        }
    }

    private static void promise40RenderDie(Sentences document) {
        String sentence = "Replaces the output text by a description of a die: the index, \":\", the value,"
                + " \"w\" and the coin weight, and \"/\" and the wear, as in \"0:25w7/12\"";
        document.test("40", sentence, check -> {
            LeafMint mint = Mints.withDies(25, 7, 1, 1, 50, 9, 9, 1, 10, 1);
            Mints.strikeMany(mint, 0, 12);
            mint.strike(3, 9);
            Mints.strikeMany(mint, 4, 10);
            String[] texts = {"0:25w7/12", "1:1w1/0", "2:50w9/0", "3:9w1/9", "4:10w1/10"};
            for (int die = 0; die < 5; die++) {
                check.equal("length", mint.renderDie(die), texts[die].length());
                check.equal("text", Mints.outputOf(mint), texts[die]);
            }
            LeafMint worn = Mints.worn(30);
            worn.renderDie(0);
            check.equal("worn out", Mints.outputOf(worn), "0:5w1/30");
        });
        document.test("40", "Returns the length of the output text", check -> {
            check.equal("the shortest", Mints.worn(9).renderDie(0), 7);
            check.equal("one digit more", Mints.worn(10).renderDie(0), 8);
            LeafMint mint = Mints.withDies(10, 9);
            Mints.strikeMany(mint, 0, 10);
            check.equal("the longest", mint.renderDie(0), 9);
        });
        noSuchDie(document, "40", LeafMint::renderDie);
    }

    // ---- what these share

    /** For each method that is given a die. */
    private static void noSuchDie(Sentences document, String promise, ObjIntConsumer<LeafMint> call) {
        document.test(promise, "Throws `IndexOutOfBoundsException` if there is no such die", check -> {
            check.refused("die 0 of none", Thrown.INDEX, LeafMint::new, mint -> call.accept(mint, 0));
            for (int dies : new int[] {1, 2, 5}) {
                check.range(dies + " dies, die", Thrown.INDEX, 0, dies - 1, () -> usedDies(dies), call);
            }
        });
    }

    /** Dies of value 10, 11, .. and weight 1, 2, .., each with 3 coins and so a wear of 3. */
    static LeafMint usedDies(int count) {
        LeafMint mint = Mints.withDies();
        for (int die = 0; die < count; die++) {
            mint.addDie(10 + die, 1 + die);
            mint.strike(die, 3);
        }
        return mint;
    }
}
