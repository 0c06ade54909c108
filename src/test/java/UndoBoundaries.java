import java.util.LinkedHashMap;
import java.util.Map;
import java.util.function.Consumer;
import java.util.function.Supplier;

/** Tests for what the document says of changes, undo and the snapshot: at its boundaries, and a step to each side. */
final class UndoBoundaries {
    private UndoBoundaries() {
    }

    static void addTo(Sentences document) {
        changes(document);
        latestEight(document);
        covered(document);
        refusedCalls(document);
        firstOfSeveral(document);
        promise47Undo(document);
        promise48Save(document);
        promise49Restore(document);
    }

    /** Coins of two dies, years and grades, of which a recall loses some weight; nothing can be undone. */
    private static LeafMint ready() {
        LeafMint mint = DieBoundaries.usedDies(2);
        mint.passYears(5);
        mint.strike(0, 2);
        return Mints.settled(mint);
    }

    private static Map<String, Consumer<LeafMint>> everyChange() {
        Map<String, Consumer<LeafMint>> calls = new LinkedHashMap<>();
        calls.put("addDie", mint -> mint.addDie(50, 9));
        calls.put("sharpen", mint -> mint.sharpen(1));
        calls.put("addLeaves", mint -> mint.addLeaves(9));
        calls.put("strike", mint -> mint.strike(0, 9));
        calls.put("passYears", mint -> mint.passYears(10));
        calls.put("recall", mint -> mint.recall(0));
        calls.put("pay", mint -> mint.pay(21));
        calls.put("runScript", mint -> Mints.run(mint, "die 7 1;sharpen 1;leaf 9;strike 2 1;year;pay 7;recall 0"));
        return calls;
    }

    private static Map<String, Consumer<LeafMint>> everyQuestion() {
        Map<String, Consumer<LeafMint>> calls = new LinkedHashMap<>();
        calls.put("of dies", mint -> {
            mint.dieCount();
            mint.dieValue(0);
            mint.coinWeight(0);
            mint.wear(0);
            mint.nextGrade(0);
            mint.dieByWear(0);
            mint.meanWear();
        });
        calls.put("of the vault", mint -> {
            mint.vaultCoins();
            mint.vaultValue();
            mint.vaultValueByDies();
            mint.vaultWeight();
            mint.coinsOfValue(10);
            mint.coinsOfYear(0);
            mint.coinsOfGrade('A');
            mint.gradeShare('A');
            mint.kinds();
        });
        calls.put("of payments", mint -> {
            mint.canPay(10);
            mint.fewestCoins(10);
            mint.fewestCoinsBySets(10);
            mint.greedyCoins(10);
            mint.coinsUsed(10, 10);
            mint.payableAmounts();
        });
        calls.put("of accounts", mint -> {
            mint.leaves();
            mint.year();
            mint.recallGrams(0);
            mint.struckTotal();
            mint.paidTotal();
            mint.paidWeight();
            mint.lostWeight();
            mint.addedWeight();
            mint.isConsistent();
        });
        calls.put("of texts", mint -> {
            mint.renderDie(0);
            mint.renderVault();
            mint.outputAt(0);
            mint.type('y');
            mint.save();
        });
        return calls;
    }

    /** A call of each method that can refuse one, which it does on the mint above. */
    private static Map<String, Consumer<LeafMint>> everyRefusal() {
        Map<String, Consumer<LeafMint>> calls = new LinkedHashMap<>();
        calls.put("addDie", mint -> mint.addDie(11, 2));
        calls.put("sharpen", mint -> mint.sharpen(2));
        calls.put("addLeaves", mint -> mint.addLeaves(100));
        calls.put("strike", mint -> mint.strike(0, 10));
        calls.put("passYears", mint -> mint.passYears(21));
        calls.put("recall", mint -> mint.recall(1));
        calls.put("pay", mint -> mint.pay(64));
        calls.put("dieValue", mint -> mint.dieValue(2));
        calls.put("coinWeight", mint -> mint.coinWeight(2));
        calls.put("wear", mint -> mint.wear(2));
        calls.put("nextGrade", mint -> mint.nextGrade(2));
        calls.put("dieByWear", mint -> mint.dieByWear(2));
        calls.put("coinsOfValue", mint -> mint.coinsOfValue(9));
        calls.put("coinsOfGrade", mint -> mint.coinsOfGrade('D'));
        calls.put("canPay", mint -> mint.canPay(100));
        calls.put("fewestCoins", mint -> mint.fewestCoins(64));
        calls.put("fewestCoinsBySets", mint -> mint.fewestCoinsBySets(64));
        calls.put("greedyCoins", mint -> mint.greedyCoins(64));
        calls.put("coinsUsed", mint -> mint.coinsUsed(64, 10));
        calls.put("gradeShare", mint -> mint.gradeShare('D'));
        calls.put("renderDie", mint -> mint.renderDie(2));
        calls.put("outputAt", mint -> mint.outputAt(99));
        calls.put("type", mint -> mint.type((char) 31));
        return calls;
    }

    // ---- the terms

    private static void changes(Sentences document) {
        document.test("Changes", "A change is a call of addDie, sharpen, addLeaves, strike, passYears, recall,"
                + " pay or runScript that returns normally, even if the state is the same afterwards", check -> {
            everyChange().forEach((name, call) -> {
                LeafMint mint = ready();
                call.accept(mint);
                check.equal(name, Mints.changesToUndo(mint), 1);
            });
            everyQuestion().forEach((name, call) -> {
                LeafMint mint = ready();
                call.accept(mint);
                check.equal("no question " + name, Mints.changesToUndo(mint), 0);
                mint.addLeaves(1);
                call.accept(mint);
                check.equal("nor after a change, " + name, Mints.changesToUndo(mint), 1);
            });
            everyRefusal().forEach((name, call) -> {
                LeafMint mint = ready();
                Mints.answerOf(() -> {
                    call.accept(mint);
                    return "";
                });
                check.equal("no refused " + name, Mints.changesToUndo(mint), 0);
            });
            for (String script : new String[] {"year;pay 99", "pay 99", "year;", ""}) {
                LeafMint mint = ready();
                Mints.answerOf(() -> Mints.run(mint, script));
                check.equal("no refused script " + script, Mints.changesToUndo(mint), 0);
            }
            for (String script : new String[] {"year", "year;year"}) {
                LeafMint mint = ready();
                Mints.run(mint, script);
                check.equal("one script " + script, Mints.changesToUndo(mint), 1);
            }
        });
    }

    private static void latestEight(Sentences document) {
        document.test("Changes", "The latest 8 changes can be undone, the latest one first", check -> {
            for (int made : new int[] {0, 1, 2, 7, 8, 9, 10, 16, 17}) {
                LeafMint mint = ready();
                int leaves = mint.leaves();
                for (int grams = 1; grams <= made; grams++) {
                    leaves = mint.addLeaves(grams);
                }
                for (int grams = made; grams > Math.max(made - 8, 0); grams--) {
                    mint.undo();
                    leaves -= grams;
                    check.equal("leaves when " + grams + " of " + made + " is undone", mint.leaves(), leaves);
                }
                check.fails("no more of " + made, Thrown.STATE, mint::undo);
                check.equal("leaves", mint.leaves(), leaves);
            }
        });
    }

    private static void covered(Sentences document) {
        document.test("Changes", "Undo and the snapshot cover everything except the script buffer, the error"
                + " position, the index of the failed command, the output text and the snapshot itself", check -> {
            everyChange().forEach((name, call) -> {
                String before = Mints.allOf(ready());
                LeafMint undone = ready();
                call.accept(undone);
                check.holds(name + " changes something", !before.equals(Mints.allOf(undone)));
                undone.undo();
                check.equal(name + " is undone", Mints.allOf(undone), before);
                LeafMint restored = ready();
                call.accept(restored);
                restored.restore();
                check.equal(name + " is gone by the snapshot", Mints.allOf(restored), before);
            });
            checkNotCovered(check, "undo", LeafMint::undo);
            checkNotCovered(check, "restore", LeafMint::restore);
            LeafMint mint = ready();
            mint.addLeaves(1);
            mint.save();
            mint.undo();
            check.equal("the snapshot is not undone", mint.leaves() + 1, leavesAfter(mint, LeafMint::restore));
            mint.addLeaves(2);
            mint.save();
            int leaves = mint.leaves();
            mint.restore();
            check.equal("nor is it restored", leavesAfter(mint, LeafMint::restore), leaves);
        });
    }

    private static int leavesAfter(LeafMint mint, Consumer<LeafMint> call) {
        call.accept(mint);
        return mint.leaves();
    }

    private static void checkNotCovered(Check check, String what, Consumer<LeafMint> back) {
        LeafMint mint = ready();
        mint.addLeaves(1);
        mint.type('p');
        check.fails("without its form", Thrown.ARGUMENT, mint::runScript);
        check.fails("fails", Thrown.STATE, () -> Mints.run(mint, "year;pay 0"));
        mint.renderDie(1);
        mint.type('y');
        mint.type('e');
        back.accept(mint);
        check.equal("the error position is kept by " + what, mint.errorPosition(), 1);
        check.equal("the failed command is kept by " + what, mint.failedCommand(), 1);
        check.equal("the output text is kept by " + what, Mints.outputOf(mint), "1:11w2/3");
        check.equal("the buffer is kept by " + what, mint.type('a'), 3);
        check.equal("its characters are kept by " + what, Mints.run(mint, "r"), 1);
    }

    private static void refusedCalls(Sentences document) {
        document.test("Changes", "A method that throws an exception changes nothing unless its description says"
                + " otherwise",
                check -> {
            everyRefusal().forEach((name, call) -> {
                LeafMint mint = Mints.busy(ready());
                check.equal(name + " is refused", Mints.answerOf(() -> {
                    call.accept(mint);
                    return "answered";
                }).endsWith("Exception") ? 1 : 0, 1);
                check.equal(name + " changes nothing", Mints.everythingOf(mint),
                        Mints.everythingOf(Mints.busy(ready())));
            });
            check.refused("meanWear", Thrown.ARITHMETIC, LeafMint::new, mint -> mint.meanWear());
            check.refusedAsMade("errorPosition", Thrown.ELEMENT, () -> Mints.worn(1), LeafMint::errorPosition);
            check.refusedAsMade("failedCommand", Thrown.ELEMENT, () -> Mints.worn(1), LeafMint::failedCommand);
            check.refusedAsMade("restore", Thrown.STATE, () -> Mints.worn(1), LeafMint::restore);
            check.refused("undo", Thrown.STATE, UndoBoundaries::ready, LeafMint::undo);
            check.refused("eight of nine coins", Thrown.STATE, () -> Mints.stocked(8, 5, 1), mint -> mint.strike(0, 9));
            LeafMint script = ready();
            Mints.type(script, "year;leaf 9;pay 99");
            check.fails("runScript", Thrown.STATE, script::runScript);
            check.equal("runScript", Mints.coveredOf(script), Mints.coveredOf(ready()));
        });
    }

    private static void firstOfSeveral(Sentences document) {
        document.test("Changes", "If several exceptions apply, the one that is listed first is thrown", check -> {
            Supplier<LeafMint> five = () -> DieBoundaries.usedDies(5);
            check.refused("addDie: value, 5 dies", Thrown.ARGUMENT, five, mint -> mint.addDie(51, 1));
            check.refused("addDie: weight, 5 dies", Thrown.ARGUMENT, five, mint -> mint.addDie(50, 0));
            check.refused("addDie: weight, 5 dies, same value", Thrown.ARGUMENT, five, mint -> mint.addDie(10, 10));
            check.refused("addDie: weight, same value", Thrown.ARGUMENT, () -> Mints.worn(1),
                    mint -> mint.addDie(5, 0));
            check.refused("addDie: 5 dies, same value", Thrown.STATE, five, mint -> mint.addDie(10, 1));
            check.refused("addLeaves: grams, stock", Thrown.ARGUMENT, () -> Mints.stocked(999),
                    mint -> mint.addLeaves(100));
            check.refused("addLeaves: grams, stock 900", Thrown.ARGUMENT, () -> Mints.stocked(900),
                    mint -> mint.addLeaves(100));
            firstOfStrike(check);
            check.refused("recall: negative, no coin", Thrown.ARGUMENT, () -> Mints.worn(1), mint -> mint.recall(-1));
            check.refused("recall: later, no coin", Thrown.ARGUMENT, () -> Mints.worn(1), mint -> mint.recall(1));
            for (int amount : new int[] {0, 100}) {
                Supplier<LeafMint> made = () -> Mints.worn(1);
                check.refused("pay", Thrown.ARGUMENT, made, mint -> mint.pay(amount));
                check.refused("fewestCoins", Thrown.ARGUMENT, made, mint -> mint.fewestCoins(amount));
                check.refused("fewestCoinsBySets", Thrown.ARGUMENT, made, mint -> mint.fewestCoinsBySets(amount));
                check.refused("greedyCoins", Thrown.ARGUMENT, made, mint -> mint.greedyCoins(amount));
                check.refused("coinsUsed: amount, payment", Thrown.ARGUMENT, made, mint -> mint.coinsUsed(amount, 5));
                check.refused("coinsUsed: amount, value", Thrown.ARGUMENT, made, mint -> mint.coinsUsed(amount, 6));
            }
            check.refused("coinsUsed: value, payment", Thrown.ELEMENT, () -> Mints.worn(1),
                    mint -> mint.coinsUsed(6, 6));
            check.refused("gradeShare", Thrown.ARGUMENT, () -> Mints.worn(0), mint -> mint.gradeShare('D'));
            LeafMint full = new LeafMint();
            Mints.type(full, "pay 1;pay 1;pay 1;pay 1;pay 1;pay 1;pay 1;pay 1;pay 1;pay 1;");
            check.fails("type: code, full", Thrown.ARGUMENT, () -> full.type((char) 127));
            check.fails("type: full", Thrown.STATE, () -> full.type('p'));
            check.fails("runScript: form, command", Thrown.ARGUMENT, full::runScript);
            check.equal("runScript: form", full.errorPosition(), 60);
            check.fails("runScript: no command", Thrown.ELEMENT, full::failedCommand);
        });
    }

    private static void firstOfStrike(Check check) {
        // Wear 29 and 1 gram left.
        Supplier<LeafMint> poor = () -> {
            LeafMint mint = Mints.stocked(30, 5, 1);
            Mints.strikeMany(mint, 0, 29);
            return mint;
        };
        check.refused("strike: die, count, stock", Thrown.INDEX, poor, mint -> mint.strike(1, 10));
        check.refused("strike: die, count", Thrown.INDEX, poor, mint -> mint.strike(-1, 0));
        check.refused("strike: count, stock, wear", Thrown.ARGUMENT, poor, mint -> mint.strike(0, 10));
        check.refused("strike: stock, wear", Thrown.STATE, poor, mint -> mint.strike(0, 2));
        // Wear 30 and 40 coins.
        Supplier<LeafMint> full = () -> PaymentBoundaries.vault(5, 1, 30, 7, 1, 10);
        check.refused("strike: die, vault", Thrown.INDEX, full, mint -> mint.strike(2, 1));
        check.refused("strike: count, vault, wear", Thrown.ARGUMENT, full, mint -> mint.strike(0, 10));
        check.refused("strike: vault, wear", Thrown.STATE, full, mint -> mint.strike(0, 1));
        check.refused("strike: count, vault", Thrown.ARGUMENT, full, mint -> mint.strike(1, 10));
    }

    // ---- promises 47 to 49

    private static void promise47Undo(Sentences document) {
        document.test("47", "Undoes the latest change that has not been undone", check -> {
            LeafMint mint = Mints.settled(new LeafMint());
            mint.addLeaves(1);
            mint.addLeaves(2);
            mint.addLeaves(4);
            check.equal("without the third", leavesAfter(mint, LeafMint::undo), 3);
            mint.addLeaves(8);
            check.equal("with a fourth", mint.leaves(), 11);
            check.equal("without the fourth", leavesAfter(mint, LeafMint::undo), 3);
            check.equal("without the second, as the third is undone", leavesAfter(mint, LeafMint::undo), 1);
            mint.addLeaves(16);
            check.equal("without the fifth", leavesAfter(mint, LeafMint::undo), 1);
            check.equal("without the first", leavesAfter(mint, LeafMint::undo), 0);
            check.fails("all are undone", Thrown.STATE, mint::undo);
        });
        document.test("47", "Returns the number of changes that can still be undone", check -> {
            for (int made : new int[] {1, 2, 7, 8, 9, 10}) {
                LeafMint mint = ready();
                for (int i = 0; i < made; i++) {
                    mint.passYears(1);
                }
                for (int left = Math.min(made, 8) - 1; left >= 0; left--) {
                    check.equal("of " + made, mint.undo(), left);
                }
                mint.passYears(1);
                check.equal("of one after all were undone", mint.undo(), 0);
            }
            LeafMint mint = ready();
            for (int i = 0; i < 8; i++) {
                mint.passYears(1);
            }
            check.equal("7 left", mint.undo(), 7);
            mint.passYears(1);
            check.equal("8, of which one is undone", mint.undo(), 7);
        });
        document.test("47", "Throws `IllegalStateException` if there is nothing to undo", check -> {
            check.refusedAsMade("a new mint", Thrown.STATE, LeafMint::new, LeafMint::undo);
            check.refused("a restored mint", Thrown.STATE, UndoBoundaries::ready, LeafMint::undo);
            for (int made : new int[] {1, 7, 8, 9}) {
                LeafMint mint = ready();
                for (int i = 0; i < made; i++) {
                    mint.passYears(1);
                }
                for (int i = 0; i < Math.min(made, 8); i++) {
                    mint.undo();
                }
                check.fails("all of " + made, Thrown.STATE, mint::undo);
                check.fails("again", Thrown.STATE, mint::undo);
                check.equal("a ninth stays", mint.year(), ready().year() + Math.max(made - 8, 0));
            }
        });
    }

    private static void promise48Save(Sentences document) {
        document.test("48", "Takes a snapshot, which replaces an earlier one", check -> {
            LeafMint mint = DieBoundaries.usedDies(2);
            int changes = Mints.changesToUndo(DieBoundaries.usedDies(2));
            String first = Mints.allOf(mint);
            mint.save();
            check.equal("it changes nothing", Mints.allOf(mint), first);
            mint.passYears(5);
            mint.strike(0, 1);
            String second = Mints.allOf(mint);
            mint.save();
            mint.recall(0);
            mint.restore();
            check.equal("the second", Mints.allOf(mint), second);
            mint.addDie(50, 1);
            mint.save();
            mint.save();
            mint.undo();
            mint.restore();
            check.equal("the fourth, like the third", mint.dieCount(), 3);
            LeafMint undoable = DieBoundaries.usedDies(2);
            undoable.save();
            check.equal("all can be undone still", Mints.changesToUndo(undoable), changes);
        });
        document.test("48", "Returns the number of coins in the vault", check -> {
            for (int coins : new int[] {0, 1, 39, 40}) {
                check.equal("coins", Mints.withCoins(coins).save(), coins);
            }
            LeafMint mint = Mints.withCoins(2);
            mint.save();
            mint.pay(50);
            check.equal("of the vault, not of the earlier snapshot", mint.save(), 1);
        });
    }

    private static void promise49Restore(Sentences document) {
        document.test("49", "Restores the snapshot, which is kept", check -> {
            everyChange().forEach((name, call) -> {
                LeafMint mint = ready();
                String saved = Mints.allOf(mint);
                for (int times = 1; times <= 3; times++) {
                    call.accept(mint);
                    mint.restore();
                    check.equal(name + ", restored " + times, Mints.allOf(mint), saved);
                }
                mint.restore();
                check.equal("restored without a change", Mints.allOf(mint), saved);
            });
            LeafMint empty = new LeafMint();
            empty.save();
            empty.addDie(5, 1);
            empty.addLeaves(1);
            empty.restore();
            check.equal("the snapshot of a new mint", Mints.allOf(empty), Mints.allOf(new LeafMint()));
        });
        document.test("49", "Afterwards there is nothing to undo", check -> {
            for (int made : new int[] {0, 1, 8, 9}) {
                LeafMint mint = DieBoundaries.usedDies(1);
                mint.save();
                for (int i = 0; i < made; i++) {
                    mint.addLeaves(1);
                }
                mint.restore();
                check.fails("after " + made + " changes", Thrown.STATE, mint::undo);
                mint.addLeaves(5);
                check.equal("a change after it", mint.undo(), 0);
                check.fails("it alone", Thrown.STATE, mint::undo);
            }
        });
        document.test("49", "Returns the number of coins in the vault", check -> {
            for (int coins : new int[] {0, 1, 39, 40}) {
                LeafMint mint = Mints.withCoins(coins);
                mint.save();
                if (coins > 0) {
                    mint.recall(0);
                }
                check.equal("coins", mint.restore(), coins);
            }
        });
        document.test("49", "Throws `IllegalStateException` if there is no snapshot", check -> {
            check.refusedAsMade("a new mint", Thrown.STATE, LeafMint::new, LeafMint::restore);
            check.refusedAsMade("a mint with changes", Thrown.STATE, () -> DieBoundaries.usedDies(2),
                    LeafMint::restore);
            LeafMint mint = DieBoundaries.usedDies(2);
            mint.save();
            check.equal("with a snapshot", mint.restore(), 6);
            check.equal("which is kept", mint.restore(), 6);
        });
    }
}
