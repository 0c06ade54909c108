import java.util.function.ObjIntConsumer;
import java.util.function.Supplier;

/** Tests for what the document says of payments: at its boundaries, and a step to each side. */
final class PaymentBoundaries {
    private PaymentBoundaries() {
    }

    static void addTo(Sentences document) {
        payments(document);
        promise8Pay(document);
        promise25CanPay(document);
        promises26And27FewestCoins(document);
        promise28GreedyCoins(document);
        promise29CoinsUsed(document);
        promise30PayableAmounts(document);
        promises33And34Paid(document);
    }

    /** Triples of value, weight and number of coins. */
    static LeafMint vault(int... triples) {
        LeafMint mint = Mints.withDies();
        for (int i = 0; i < triples.length; i += 3) {
            int die = mint.addDie(triples[i], triples[i + 1]);
            Mints.strikeMany(mint, die, triples[i + 2]);
        }
        return mint;
    }

    /** It can pay each amount from 1 to 99, and no more. */
    private static LeafMint richVault() {
        return vault(50, 3, 1, 10, 2, 4, 1, 1, 9);
    }

    /** It can pay 7, 14 and 21 alone. */
    private static LeafMint threeSevens() {
        return vault(7, 2, 3, 20, 1, 0);
    }

    /** 40 coins that have the sum 52. */
    private static LeafMint fullVault() {
        return vault(1, 1, 28, 2, 1, 12);
    }

    private static boolean isSevens(int amount) {
        return amount == 7 || amount == 14 || amount == 21;
    }

    // ---- the terms

    private static void payments(Sentences document) {
        String section = "Payments";
        document.test(section, "An amount can be paid if some coins of the vault have this sum of values", check -> {
            for (int amount = 1; amount <= 99; amount++) {
                check.holds("sevens, " + amount, threeSevens().canPay(amount) == isSevens(amount));
                check.holds("each amount, " + amount, richVault().canPay(amount));
                check.holds("40 coins, " + amount, fullVault().canPay(amount) == amount <= 52);
                check.holds("no coin, " + amount, !Mints.withDies(1, 1).canPay(amount));
                boolean pairs = amount == 49 || amount == 50 || amount == 99;
                check.holds("49 and 50, " + amount, vault(49, 1, 1, 50, 1, 1).canPay(amount) == pairs);
            }
        });
        document.test(section, "A payment uses as few coins as possible", check -> {
            check.equal("10 three times, not 25 and 1 five times", vault(25, 1, 1, 10, 1, 3, 1, 1, 5).pay(30), 3);
            check.equal("25 and 1 five times with two of 10", vault(25, 1, 1, 10, 1, 2, 1, 1, 5).pay(30), 6);
            check.equal("50 once, not 25 twice", vault(25, 1, 2, 50, 1, 1).pay(50), 1);
            check.equal("25 twice", vault(25, 1, 2, 50, 1, 0).pay(50), 2);
            check.equal("20 and 20, not 25, 5, 5 and 5", vault(25, 1, 1, 20, 1, 2, 5, 1, 3).pay(40), 2);
            check.equal("all 40", fullVault().pay(52), 40);
            check.equal("all but one", fullVault().pay(51), 39);
        });
        document.test(section, "If there are several possibilities, it uses as many coins as possible of the"
                + " greatest value, then as many as possible of the second greatest value, and so on",
                PaymentBoundaries::severalPossibilities);
        document.test(section, "Of coins with the same value, those with lower grades are used first (C before"
                + " B before A), and of these, those of earlier years", PaymentBoundaries::orderOfCoins);
        document.test(section, "The coins leave the vault", check -> {
            LeafMint mint = threeSevens();
            mint.pay(14);
            check.equal("one left", mint.vaultCoins(), 1);
            check.equal("its value", mint.vaultValue(), 7);
            mint.pay(7);
            check.equal("none left", mint.vaultCoins(), 0);
            check.fails("nothing to pay with", Thrown.UNSUPPORTED, () -> mint.pay(7));
            check.equal("they do not return to the stock", mint.leaves(), 297 - 6);
            LeafMint full = fullVault();
            full.pay(52);
            check.equal("none of 40", full.vaultCoins(), 0);
        });
    }

    private static void severalPossibilities(Check check) {
        // 15 = 6 + 6 + 3 = 6 + 5 + 4 = 5 + 5 + 5
        checkUsed(check, vault(3, 1, 1, 5, 1, 3, 6, 1, 2, 4, 1, 1), 15, 6, 2, 5, 0, 4, 0, 3, 1);
        checkUsed(check, vault(3, 1, 1, 5, 1, 3, 6, 1, 1, 4, 1, 1), 15, 6, 1, 5, 1, 4, 1, 3, 0);
        checkUsed(check, vault(3, 1, 1, 5, 1, 3, 6, 1, 0, 4, 1, 1), 15, 6, 0, 5, 3, 4, 0, 3, 0);
        // 20 = 10 + 6 + 4 = 10 + 5 + 5: the second greatest decides.
        checkUsed(check, vault(10, 1, 1, 5, 1, 2, 4, 1, 1, 6, 1, 1), 20, 10, 1, 6, 1, 5, 0, 4, 1);
        checkUsed(check, vault(10, 1, 1, 5, 1, 2, 4, 1, 0, 6, 1, 1), 20, 10, 1, 6, 0, 5, 2, 4, 0);
        // 78 = 50 + 20 + 5 + 3 = 50 + 20 + 4 + 4: the third decides.
        checkUsed(check, vault(4, 1, 2, 3, 1, 1, 20, 1, 1, 5, 1, 1, 50, 1, 1), 78, 50, 1, 20, 1, 5, 1, 4, 0, 3, 1);
        checkUsed(check, vault(4, 1, 2, 3, 1, 0, 20, 1, 1, 5, 1, 1, 50, 1, 1), 78, 50, 1, 20, 1, 5, 0, 4, 2, 3, 0);
        // 12 = 10 + 1 + 1 = 5 + 5 + 2, but 10 + 2 has fewer coins.
        checkUsed(check, vault(10, 1, 1, 5, 1, 2, 2, 1, 1, 1, 1, 2), 12, 10, 1, 5, 0, 2, 1, 1, 0);
        checkUsed(check, vault(10, 1, 1, 5, 1, 2, 2, 1, 0, 1, 1, 2), 12, 10, 1, 5, 0, 2, 0, 1, 2);
    }

    /** The pairs are a value and how many coins of it a payment uses, first as foretold and then as paid. */
    private static void checkUsed(Check check, LeafMint mint, int amount, int... pairs) {
        int[] before = new int[pairs.length];
        for (int i = 0; i < pairs.length; i += 2) {
            before[i] = mint.coinsOfValue(pairs[i]);
            check.equal("coinsUsed " + amount + ", " + pairs[i], mint.coinsUsed(amount, pairs[i]), pairs[i + 1]);
        }
        mint.pay(amount);
        for (int i = 0; i < pairs.length; i += 2) {
            check.equal("paid " + amount + ", " + pairs[i], before[i] - mint.coinsOfValue(pairs[i]), pairs[i + 1]);
        }
    }

    private static void orderOfCoins(Check check) {
        LeafMint mint = Mints.withDies(1, 1);
        Mints.strikeMany(mint, 0, 10);
        mint.passYears(1);
        Mints.strikeMany(mint, 0, 5);
        mint.passYears(1);
        Mints.strikeMany(mint, 0, 7);
        mint.passYears(1);
        mint.strike(0, 1);
        mint.sharpen(0);
        mint.strike(0, 2);
        // Grade and year of the coins in the order in which they are used.
        String[] order = {
            "C2", "C2", "C3", "B1", "B1", "B1", "B1", "B1", "B2", "B2", "B2", "B2", "B2",
            "A0", "A0", "A0", "A0", "A0", "A0", "A0", "A0", "A0", "A0", "A3", "A3"
        };
        check.equal("coins", mint.vaultCoins(), order.length);
        for (int i = 0; i < order.length; i++) {
            char grade = order[i].charAt(0);
            int year = order[i].charAt(1) - '0';
            int ofGrade = mint.coinsOfGrade(grade);
            int ofYear = mint.coinsOfYear(year);
            mint.pay(1);
            check.equal("coin " + i + " is " + grade, mint.coinsOfGrade(grade), ofGrade - 1);
            check.equal("coin " + i + " is of year " + year, mint.coinsOfYear(year), ofYear - 1);
        }
    }

    // ---- promise 8

    private static void promise8Pay(Sentences document) {
        document.test("8", "Pays an amount", check -> {
            for (int amount : new int[] {1, 2, 9, 10, 11, 49, 50, 51, 98, 99}) {
                LeafMint mint = richVault();
                mint.pay(amount);
                check.equal("value after " + amount, mint.vaultValue(), 99 - amount);
                check.equal("paid", mint.paidTotal(), amount);
                check.equal("weight", mint.paidWeight() + mint.vaultWeight(), 3 + 8 + 9);
                check.equal("a paid coin was struck", mint.struckTotal(), 14);
                check.equal("wear stays", mint.wear(2), 9);
            }
        });
        document.test("8", "Returns the number of coins that are used", check -> {
            check.equal("one", richVault().pay(50), 1);
            check.equal("two", richVault().pay(51), 2);
            check.equal("all", richVault().pay(99), 14);
            check.equal("all 40", fullVault().pay(52), 40);
        });
        badAmount(document, "8", LeafMint::pay);
        unpayable(document, "8", "Throws `UnsupportedOperationException` if the amount cannot be paid",
                Thrown.UNSUPPORTED, LeafMint::pay);
    }

    /** For each method that is given an amount. */
    private static void badAmount(Sentences document, String promise, ObjIntConsumer<LeafMint> call) {
        document.test(promise, "Throws `IllegalArgumentException` if amount is not between 1 and 99", check ->
                check.range("amount", Thrown.ARGUMENT, 1, 99, PaymentBoundaries::richVault, call));
    }

    /** For each method that is given an amount and does not take one that cannot be paid. */
    private static void unpayable(Sentences document, String promise, String sentence, Class<?> wanted,
            ObjIntConsumer<LeafMint> call) {
        document.test(promise, sentence, check -> {
            for (int amount = 1; amount <= 99; amount++) {
                checkPayable(check, amount, isSevens(amount), wanted, PaymentBoundaries::threeSevens, call);
                checkPayable(check, amount, amount <= 52, wanted, PaymentBoundaries::fullVault, call);
            }
            for (int amount : new int[] {1, 50, 99}) {
                checkPayable(check, amount, false, wanted, () -> Mints.withDies(7, 1, 1, 1), call);
                checkPayable(check, amount, true, wanted, PaymentBoundaries::richVault, call);
            }
        });
    }

    private static void checkPayable(Check check, int amount, boolean payable, Class<?> wanted,
            Supplier<LeafMint> made, ObjIntConsumer<LeafMint> call) {
        if (payable) {
            LeafMint mint = made.get();
            check.returns("" + amount, () -> call.accept(mint, amount));
        } else {
            check.refused("" + amount, wanted, made, mint -> call.accept(mint, amount));
        }
    }

    // ---- promises 25 to 30

    private static void promise25CanPay(Sentences document) {
        document.test("25", "Returns whether an amount can be paid", check -> {
            LeafMint[] mints = {threeSevens(), richVault(), Mints.withDies(7, 1)};
            for (int amount = 1; amount <= 99; amount++) {
                check.holds("sevens, " + amount, mints[0].canPay(amount) == isSevens(amount));
                check.holds("each amount, " + amount, mints[1].canPay(amount));
                check.holds("no coin, " + amount, !mints[2].canPay(amount));
            }
            check.equal("it changes nothing", mints[1].vaultCoins(), 14);
        });
        badAmount(document, "25", LeafMint::canPay);
    }

    private static void promises26And27FewestCoins(Sentences document) {
        document.test("26", "Returns how many coins a payment of an amount would use, computed value by value"
                + " with a table of amounts", check -> {
            for (int amount = 1; amount <= 99; amount++) {
                int tens = Math.min(amount % 50 / 10, 4);
                int due = amount / 50 + tens + (amount - amount / 50 * 50 - 10 * tens);
                check.equal("each amount, " + amount, richVault().fewestCoins(amount), due);
                check.equal("as a payment", richVault().pay(amount), due);
            }
            for (int amount = 1; amount <= 52; amount++) {
                int due = amount <= 24 ? (amount + 1) / 2 : amount - 12;
                check.equal("40 coins, " + amount, fullVault().fewestCoins(amount), due);
            }
            check.equal("not greedily", vault(25, 1, 1, 10, 1, 3, 1, 1, 5).fewestCoins(30), 3);
            LeafMint mint = richVault();
            mint.fewestCoins(99);
            check.equal("it changes nothing", mint.vaultCoins(), 14);
        });
        document.test("27", "Returns the same number as fewestCoins, computed coin by coin with the sets of"
                + " amounts that a number of coins can pay", check -> {
            checkBothWays(check, richVault());
            checkBothWays(check, threeSevens());
            checkBothWays(check, fullVault());
            checkBothWays(check, Mints.withDies(1, 1));
            checkBothWays(check, vault(50, 1, 2, 49, 1, 2, 1, 1, 2, 13, 1, 2, 31, 1, 2));
            checkBothWays(check, vault(2, 1, 30, 3, 1, 10));
            checkBothWays(check, vault(50, 1, 30, 1, 1, 10));
            check.equal("40 coins", fullVault().fewestCoinsBySets(52), 40);
            check.equal("64 by 50 and 14", vault(50, 1, 1, 14, 1, 1).fewestCoinsBySets(64), 2);
            check.equal("63 by 50 and 13", vault(50, 1, 1, 13, 1, 1).fewestCoinsBySets(63), 2);
        });
        badAmount(document, "26", LeafMint::fewestCoins);
        badAmount(document, "27", LeafMint::fewestCoinsBySets);
        String sentence = "Throws `NoSuchElementException` if the amount cannot be paid";
        unpayable(document, "26", sentence, Thrown.ELEMENT, LeafMint::fewestCoins);
        unpayable(document, "27", sentence, Thrown.ELEMENT, LeafMint::fewestCoinsBySets);
    }

    private static void checkBothWays(Check check, LeafMint mint) {
        for (int amount = 1; amount <= 99; amount++) {
            int due = amount;
            check.equal("amount " + amount, Mints.answerOf(() -> mint.fewestCoinsBySets(due)),
                    Mints.answerOf(() -> mint.fewestCoins(due)));
        }
    }

    private static void promise28GreedyCoins(Sentences document) {
        document.test("28", "Returns how many coins are used if an amount is paid greedily: again and again"
                + " with a coin in the vault of the greatest value that is not greater than what is still to be"
                + " paid", check -> {
            LeafMint mint = vault(9, 1, 1, 11, 1, 1, 10, 1, 1, 1, 1, 2);
            check.equal("9 as it is", mint.greedyCoins(9), 1);
            check.equal("10 as it is", mint.greedyCoins(10), 1);
            check.equal("11 as it is", mint.greedyCoins(11), 1);
            check.equal("12 with 11 and 1", mint.greedyCoins(12), 2);
            check.equal("22 with 11, 10 and 1", mint.greedyCoins(22), 3);
            check.equal("32 with all", mint.greedyCoins(32), 5);
            check.equal("10 with 9 and 1, not with 11", vault(11, 1, 1, 9, 1, 1, 1, 1, 1).greedyCoins(10), 2);
            check.equal("30 with 25 and 1 five times", vault(25, 1, 1, 10, 1, 3, 1, 1, 5).greedyCoins(30), 6);
            check.equal("29 as the two of 10 run out", vault(10, 1, 2, 1, 1, 9).greedyCoins(29), 11);
            check.equal("no coin of the greatest value", vault(50, 1, 0, 5, 1, 11).greedyCoins(55), 11);
            check.equal("all 40", fullVault().greedyCoins(52), 40);
        });
        badAmount(document, "28", LeafMint::greedyCoins);
        document.test("28", "Throws `NoSuchElementException` if a part of the amount cannot be paid in this way",
                check -> {
            Supplier<LeafMint> made = () -> vault(25, 1, 1, 10, 1, 3, 1, 1, 4);
            check.equal("29", made.get().greedyCoins(29), 5);
            check.refused("30, of which 1 stays", Thrown.ELEMENT, made, mint -> mint.greedyCoins(30));
            check.equal("30 can be paid otherwise", made.get().fewestCoins(30), 3);
            check.equal("35", made.get().greedyCoins(35), 2);
            check.equal("the whole vault", made.get().greedyCoins(59), 8);
            check.refused("one more than the vault", Thrown.ELEMENT, made, mint -> mint.greedyCoins(60));
            check.refused("no coin", Thrown.ELEMENT, () -> Mints.withDies(1, 1), mint -> mint.greedyCoins(1));
            check.refused("one less than the least", Thrown.ELEMENT, PaymentBoundaries::threeSevens,
                    mint -> mint.greedyCoins(6));
        });
    }

    private static void promise29CoinsUsed(Sentences document) {
        document.test("29", "Returns how many coins with a value a payment of an amount would use", check -> {
            int[][] due = {{1, 0, 0, 1}, {9, 0, 0, 9}, {10, 0, 1, 0}, {49, 0, 4, 9}, {50, 1, 0, 0}, {99, 1, 4, 9}};
            for (int[] row : due) {
                LeafMint mint = richVault();
                check.equal(row[0] + ", 50", mint.coinsUsed(row[0], 50), row[1]);
                check.equal(row[0] + ", 10", mint.coinsUsed(row[0], 10), row[2]);
                check.equal(row[0] + ", 1", mint.coinsUsed(row[0], 1), row[3]);
                check.equal("it changes nothing", mint.vaultCoins(), 14);
            }
            check.equal("a die without coins", threeSevens().coinsUsed(21, 20), 0);
        });
        badAmount(document, "29", (mint, amount) -> mint.coinsUsed(amount, 1));
        document.test("29", "Throws `NoSuchElementException` if no die has this value", check -> {
            int[] values = {0, 6, 8, 14, 19, 21, 51, -7, 7 + 256, 7 + 65536, Integer.MIN_VALUE, Integer.MAX_VALUE};
            for (int value : values) {
                check.refused("value " + value, Thrown.ELEMENT, PaymentBoundaries::threeSevens,
                        mint -> mint.coinsUsed(7, value));
            }
            check.equal("value 7", threeSevens().coinsUsed(7, 7), 1);
            check.equal("value 20", threeSevens().coinsUsed(7, 20), 0);
        });
        unpayable(document, "29", "Throws `UnsupportedOperationException` if the amount cannot be paid",
                Thrown.UNSUPPORTED, (mint, amount) -> mint.coinsUsed(amount, mint.dieValue(1)));
    }

    private static void promise30PayableAmounts(Sentences document) {
        document.test("30", "Returns how many of the amounts from 1 to 99 can be paid", check -> {
            check.equal("none", new LeafMint().payableAmounts(), 0);
            check.equal("no coin", Mints.withDies(1, 1).payableAmounts(), 0);
            check.equal("1 alone", vault(1, 1, 1).payableAmounts(), 1);
            check.equal("7, 14 and 21", threeSevens().payableAmounts(), 3);
            check.equal("50, but not 100", vault(50, 1, 2).payableAmounts(), 1);
            check.equal("49, 50 and 99", vault(50, 1, 1, 49, 1, 1).payableAmounts(), 3);
            check.equal("49 and 98", vault(49, 1, 2).payableAmounts(), 2);
            check.equal("1 to 98", vault(49, 1, 1, 10, 1, 4, 1, 1, 9).payableAmounts(), 98);
            check.equal("1 to 99", richVault().payableAmounts(), 99);
            check.equal("1 to 99 of more", vault(50, 1, 2, 10, 1, 4, 1, 1, 9).payableAmounts(), 99);
            check.equal("1 to 52", fullVault().payableAmounts(), 52);
        });
    }

    // ---- promises 33 and 34

    private static void promises33And34Paid(Sentences document) {
        document.test("33", "Returns the sum of all amounts that have been paid so far", check -> {
            LeafMint mint = richVault();
            check.equal("at first", mint.paidTotal(), 0);
            mint.pay(1);
            check.equal("1", mint.paidTotal(), 1);
            mint.pay(50);
            check.equal("51", mint.paidTotal(), 51);
            check.fails("a refused payment", Thrown.UNSUPPORTED, () -> mint.pay(50));
            mint.canPay(10);
            mint.fewestCoins(10);
            mint.coinsUsed(10, 10);
            check.equal("as before", mint.paidTotal(), 51);
            mint.recall(0);
            check.equal("a recall pays nothing", mint.paidTotal(), 51);
            LeafMint full = fullVault();
            full.pay(52);
            check.equal("all", full.paidTotal(), 52);
        });
        document.test("34", "Returns the weight of all coins that have been used for payments so far", check -> {
            LeafMint mint = richVault();
            check.equal("at first", mint.paidWeight(), 0);
            mint.pay(1);
            check.equal("1 gram", mint.paidWeight(), 1);
            mint.pay(60);
            check.equal("3 and 2 grams more", mint.paidWeight(), 6);
            check.fails("a refused payment", Thrown.UNSUPPORTED, () -> mint.pay(50));
            check.equal("as before", mint.paidWeight(), 6);
            mint.passYears(10);
            mint.pay(10);
            check.equal("a lower grade weighs as much", mint.paidWeight(), 8);
            mint.recall(0);
            check.equal("a recall pays nothing", mint.paidWeight(), 8);
        });
    }
}
