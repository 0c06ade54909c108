/** Tests for what the document says of years and recalls: at its boundaries, and a step to each side. */
final class YearBoundaries {
    private YearBoundaries() {
    }

    static void addTo(Sentences document) {
        years(document);
        recalls(document);
        recalledStock(document);
        promise6PassYears(document);
        promise7Recall(document);
        promises16And22Year(document);
        promise31RecallGrams(document);
        promise35LostWeight(document);
    }

    /** A stock of 1008 grams. */
    static LeafMint beyond999() {
        LeafMint mint = Mints.stocked(999, 5, 9);
        mint.strike(0, 1);
        mint.addLeaves(9);
        mint.recall(0);
        return mint;
    }

    /** 3 coins of year 0, 4 of year 2 and 5 of year 3, in year 4. */
    private static LeafMint fourYears() {
        LeafMint mint = Mints.withDies(5, 2);
        mint.strike(0, 3);
        mint.passYears(2);
        mint.strike(0, 4);
        mint.passYears(1);
        mint.sharpen(0);
        mint.strike(0, 5);
        mint.passYears(1);
        return mint;
    }

    /** One coin of this weight, in year 0 of the grade A, and so of B in year 5 and of C in year 10. */
    private static LeafMint oneCoin(int weight, int year) {
        LeafMint mint = Mints.stocked(9, 5, weight);
        mint.strike(0, 1);
        for (int i = 0; i < year; i++) {
            mint.passYears(1);
        }
        return mint;
    }

    // ---- the terms

    private static void years(Sentences document) {
        String section = "Years";
        document.test(section, "The year counter starts at 0", check -> {
            LeafMint mint = Mints.worn(1);
            check.equal("at first", mint.year(), 0);
            check.equal("the first coin is of year 0", mint.coinsOfYear(0), 1);
            check.fails("there is no year 1", Thrown.ARGUMENT, () -> mint.recall(1));
            mint.passYears(1);
            check.equal("a year after", mint.year(), 1);
        });
        document.test(section, "The age of a coin is the year counter minus the year of the coin", check -> {
            LeafMint mint = Mints.withDies(5, 1);
            mint.passYears(3);
            mint.strike(0, 1);
            mint.passYears(4);
            check.equal("age 4 in year 7", mint.coinsOfGrade('A'), 1);
            mint.passYears(1);
            check.equal("age 5 in year 8", mint.coinsOfGrade('B'), 1);
            mint.passYears(4);
            check.equal("age 9 in year 12", mint.coinsOfGrade('B'), 1);
            mint.passYears(1);
            check.equal("age 10 in year 13", mint.coinsOfGrade('C'), 1);
        });
        document.test(section, "When a year passes, the year counter increases by 1, and each coin in the vault"
                + " whose age is 5 or 10 then gets the next lower grade (B after A, and C after B)",
                YearBoundaries::gradesByAge);
        document.test(section, "a coin with the grade C keeps it", check -> {
            for (int years : new int[] {4, 5, 6, 9, 10, 11, 20}) {
                LeafMint mint = Mints.worn(21);
                int lowered = years < 5 ? 0 : years < 10 ? 20 : 30;
                check.equal("of 10 A, 10 B and 1 C in " + years, mint.passYears(years), lowered);
                check.equal("C after " + years, mint.coinsOfGrade('C'), years < 5 ? 1 : years < 10 ? 11 : 21);
            }
        });
    }

    private static void gradesByAge(Check check) {
        LeafMint mint = oneCoin(3, 0);
        for (int age = 1; age <= 21; age++) {
            check.equal("lowered at age " + age, mint.passYears(1), age == 5 || age == 10 ? 1 : 0);
            check.equal("year", mint.year(), age);
            check.equal("grade at age " + age, mint.coinsOfGrade(age < 5 ? 'A' : age < 10 ? 'B' : 'C'), 1);
        }
        LeafMint two = Mints.withDies(5, 1);
        two.strike(0, 2);
        two.passYears(5);
        two.strike(0, 3);
        check.equal("ages 9 and 4", two.passYears(4), 0);
        check.equal("ages 10 and 5", two.passYears(1), 5);
        check.equal("C after B", two.coinsOfGrade('C'), 2);
        check.equal("B after A", two.coinsOfGrade('B'), 3);
        check.equal("ages 11 and 6", two.passYears(1), 0);
    }

    private static void recalls(Sentences document) {
        String section = "Recalls";
        document.test(section, "When a year is recalled, all coins of this year in the vault are melted", check -> {
            LeafMint mint = fourYears();
            mint.recall(2);
            check.equal("of the year", mint.coinsOfYear(2), 0);
            check.equal("of the year after", mint.coinsOfYear(3), 5);
            check.equal("of an earlier year", mint.coinsOfYear(0), 3);
            check.equal("coins", mint.vaultCoins(), 8);
            LeafMint full = Mints.withCoins(40);
            full.recall(0);
            check.equal("40 coins of two dies", full.vaultCoins(), 0);
        });
        document.test(section, "A coin with the grade A returns its weight to the stock", check -> {
            for (int weight = 1; weight <= 9; weight++) {
                LeafMint mint = oneCoin(weight, 4);
                check.equal("A of " + weight, mint.recall(0), weight);
                check.equal("stock", mint.leaves(), 9);
            }
        });
        document.test(section, "a coin with the grade B returns 1 gram less and a coin with the grade C returns"
                + " 2 grams less, but not less than 0 grams", check -> {
            for (int weight = 1; weight <= 9; weight++) {
                for (int year : new int[] {5, 9}) {
                    LeafMint mint = oneCoin(weight, year);
                    check.equal("B of " + weight, mint.recall(0), weight - 1);
                    check.equal("stock", mint.leaves(), 9 - 1);
                }
                for (int year : new int[] {10, 11, 15}) {
                    LeafMint mint = oneCoin(weight, year);
                    check.equal("C of " + weight, mint.recall(0), weight == 1 ? 0 : weight - 2);
                    check.equal("stock", mint.leaves(), weight == 1 ? 8 : 7);
                }
            }
            LeafMint two = Mints.withDies(5, 1, 7, 9);
            two.strike(0, 4);
            two.strike(1, 1);
            two.passYears(10);
            check.equal("coin by coin, not on the whole", two.recall(0), 7);
        });
        document.test(section, "What is not returned is lost", check -> {
            for (int weight : new int[] {1, 2, 3, 9}) {
                LeafMint mint = oneCoin(weight, 4);
                mint.recall(0);
                check.equal("A of " + weight, mint.lostWeight(), 0);
                mint = oneCoin(weight, 5);
                mint.recall(0);
                check.equal("B of " + weight, mint.lostWeight(), 1);
                mint = oneCoin(weight, 10);
                mint.recall(0);
                check.equal("C of " + weight, mint.lostWeight(), weight == 1 ? 1 : 2);
            }
            LeafMint others = fourYears();
            others.passYears(4);
            others.recall(2);
            check.equal("4 B beside coins of other years", others.lostWeight(), 4);
        });
    }

    private static void recalledStock(Sentences document) {
        document.test("Recalls", "The stock may become greater than 999 by a recall", check -> {
            for (int added = 1; added <= 3; added++) {
                LeafMint mint = Mints.stocked(999, 5, 9);
                mint.strike(0, 1);
                mint.addLeaves(added);
                mint.passYears(10);
                check.equal("returned", mint.recall(0), 7);
                check.equal("stock", mint.leaves(), 990 + added + 7);
            }
            LeafMint full = Mints.stocked(999, 5, 9);
            full.strike(0, 1);
            full.recall(0);
            check.equal("999 again", full.leaves(), 999);
            full.strike(0, 9);
            full.addLeaves(81);
            full.recall(0);
            check.equal("far beyond 999", full.leaves(), 999 + 81);
            check.fails("but not by adding leaves", Thrown.STATE, () -> full.addLeaves(1));
            check.equal("beyond 999 can be struck", full.strike(0, 9), 9);
            check.equal("down to 999", full.leaves(), 999);
            check.fails("1000", Thrown.STATE, () -> full.addLeaves(1));
            full.strike(0, 1);
            check.equal("below 999", full.addLeaves(9), 999);
        });
    }

    // ---- promises 6, 7 and 35

    private static void promise6PassYears(Sentences document) {
        document.test("6", "Lets years pass", check -> {
            for (int years : new int[] {1, 2, 19, 20}) {
                LeafMint mint = fourYears();
                mint.passYears(years);
                check.equal("year", mint.year(), 4 + years);
                check.equal("no coin is lost", mint.vaultCoins(), 12);
                check.equal("its year stays", mint.coinsOfYear(2), 4);
                check.equal("wear stays", mint.wear(0), 5);
            }
        });
        document.test("6", "Returns how many times a coin gets a lower grade in these years", check -> {
            int[] years = {1, 4, 5, 6, 9, 10, 11, 20};
            int[] lowered = {0, 0, 1, 1, 1, 2, 2, 2};
            for (int i = 0; i < years.length; i++) {
                check.equal("one coin in " + years[i], oneCoin(3, 0).passYears(years[i]), lowered[i]);
            }
            check.equal("no coin", new LeafMint().passYears(20), 0);
            check.equal("only C", oneCoin(3, 10).passYears(20), 0);
            LeafMint full = Mints.withDies(50, 1, 1, 1, 2, 1, 3, 1);
            for (int die = 0; die < 4; die++) {
                Mints.strikeMany(full, die, 10);
            }
            check.equal("40 coins twice", full.passYears(20), 80);
        });
        document.test("6", "Throws `IllegalArgumentException` if years is not between 1 and 20", check ->
                check.range("years", Thrown.ARGUMENT, 1, 20, YearBoundaries::fourYears, LeafMint::passYears));
    }

    private static void promise7Recall(Sentences document) {
        document.test("7", "Recalls a year", check -> {
            for (int year : new int[] {0, 2, 3}) {
                LeafMint mint = fourYears();
                int coins = mint.coinsOfYear(year);
                mint.recall(year);
                check.equal("coins", mint.vaultCoins(), 12 - coins);
                check.equal("leaves", mint.leaves(), 297 - 24 + 2 * coins);
                check.equal("the year counter stays", mint.year(), 4);
                check.equal("wear stays", mint.wear(0), 5);
                check.equal("a recalled coin was struck", mint.struckTotal(), 12);
            }
        });
        document.test("7", "Returns the grams that are returned to the stock", check -> {
            check.equal("9", oneCoin(9, 4).recall(0), 9);
            check.equal("8", oneCoin(9, 5).recall(0), 8);
            check.equal("1", oneCoin(3, 10).recall(0), 1);
            check.equal("0 of 2, which is no refusal", oneCoin(2, 10).recall(0), 0);
            check.equal("0 of 1", oneCoin(1, 5).recall(0), 0);
            check.equal("of all coins of the year", fourYears().recall(3), 10);
        });
        document.test("7", "Throws `IllegalArgumentException` if year is negative or greater than the year"
                + " counter",
                check -> {
            check.range("year, in year 0,", Thrown.ARGUMENT, 0, 0, () -> Mints.worn(2), LeafMint::recall);
            for (int year : new int[] {-1, 5, 256, 65536, Integer.MIN_VALUE, Integer.MAX_VALUE}) {
                check.refused("year " + year + " in year 4", Thrown.ARGUMENT, YearBoundaries::fourYears,
                        mint -> mint.recall(year));
            }
            LeafMint mint = fourYears();
            mint.strike(0, 1);
            check.equal("the present year", mint.recall(4), 2);
            check.equal("the year before", mint.recall(3), 10);
            check.equal("year 0", mint.recall(0), 6);
        });
        document.test("7", "Throws `NoSuchElementException` if there is no coin of this year in the vault", check -> {
            for (int year : new int[] {1, 4}) {
                check.refused("year " + year, Thrown.ELEMENT, YearBoundaries::fourYears, mint -> mint.recall(year));
            }
            check.refused("no coin at all", Thrown.ELEMENT, () -> Mints.withDies(5, 1), mint -> mint.recall(0));
            LeafMint mint = oneCoin(5, 4);
            check.equal("one coin", mint.recall(0), 5);
            check.fails("it is recalled already", Thrown.ELEMENT, () -> mint.recall(0));
            LeafMint paid = oneCoin(5, 4);
            paid.pay(5);
            check.fails("it has left the vault", Thrown.ELEMENT, () -> paid.recall(0));
        });
    }

    private static void promise35LostWeight(Sentences document) {
        document.test("35", "Returns the weight that has been lost by recalls so far", check -> {
            LeafMint mint = Mints.withDies(5, 3, 7, 9);
            check.equal("at first", mint.lostWeight(), 0);
            mint.strike(0, 1);
            mint.passYears(4);
            mint.strike(1, 2);
            mint.passYears(1);
            check.equal("a lower grade alone loses nothing", mint.lostWeight(), 0);
            mint.recall(0);
            check.equal("a B coin", mint.lostWeight(), 1);
            mint.strike(0, 2);
            mint.passYears(10);
            mint.recall(5);
            check.equal("two C coins more", mint.lostWeight(), 5);
            mint.strike(0, 1);
            mint.recall(15);
            check.equal("an A coin more", mint.lostWeight(), 5);
            mint.strike(0, 1);
            mint.passYears(5);
            mint.pay(5);
            check.equal("a paid coin is not lost", mint.lostWeight(), 5);
            check.fails("a refused recall", Thrown.ELEMENT, () -> mint.recall(15));
            check.equal("a refused recall loses nothing", mint.lostWeight(), 5);
        });
    }

    // ---- promises 16, 22 and 31

    private static void promises16And22Year(Sentences document) {
        document.test("16", "Returns the year counter", check -> {
            LeafMint mint = new LeafMint();
            check.equal("at first", mint.year(), 0);
            mint.passYears(1);
            check.equal("after one", mint.year(), 1);
            for (int i = 0; i < 511 - 3; i++) {
                mint.passYears(20);
            }
            check.equal("the 512th call", mint.year(), 1 + 508 * 20);
        });
        document.test("22", "Returns how many coins of a year are in the vault", check -> {
            LeafMint mint = fourYears();
            int[] coins = {3, 0, 4, 5, 0};
            for (int year = 0; year < coins.length; year++) {
                check.equal("year " + year, mint.coinsOfYear(year), coins[year]);
            }
            check.equal("40 coins", Mints.withCoins(40).coinsOfYear(0), 40);
        });
        document.test("22", "- `year`: any number", check -> {
            for (int year : new int[] {-1, 5, 256, 65536, Integer.MIN_VALUE, Integer.MAX_VALUE}) {
                check.equal("year " + year, fourYears().coinsOfYear(year), 0);
            }
            check.equal("a new mint", new LeafMint().coinsOfYear(0), 0);
        });
    }

    private static void promise31RecallGrams(Sentences document) {
        document.test("31", "Returns how many grams a recall of a year would return to the stock", check -> {
            for (int weight : new int[] {1, 2, 3, 9}) {
                for (int year : new int[] {0, 4, 5, 9, 10, 11}) {
                    LeafMint mint = oneCoin(weight, year);
                    int grams = mint.recallGrams(0);
                    int due = Math.max(0, weight - Math.min(year / 5, 2));
                    check.equal("weight " + weight + " in year " + year, grams, due);
                    check.equal("it changes nothing", mint.vaultCoins(), 1);
                    check.equal("as a recall does", mint.recall(0), grams);
                }
            }
        });
        document.test("31", "- `year`: any number", check -> {
            for (int year : new int[] {-1, 5, 256, 65536, Integer.MIN_VALUE, Integer.MAX_VALUE}) {
                check.equal("year " + year, fourYears().recallGrams(year), 0);
            }
        });
        document.test("31", "Returns the number of grams, 0 if there is no coin of this year in the vault", check -> {
            int[] grams = {6, 0, 8, 10, 0};
            for (int year = 0; year < grams.length; year++) {
                check.equal("year " + year, fourYears().recallGrams(year), grams[year]);
            }
            check.equal("a new mint", new LeafMint().recallGrams(0), 0);
            LeafMint mint = fourYears();
            mint.recall(3);
            check.equal("recalled already", mint.recallGrams(3), 0);
            check.equal("the other years", mint.recallGrams(2), 8);
        });
    }
}
