import java.util.function.Consumer;
import java.util.function.Supplier;

/** Tests for what the document says of scripts: at its boundaries, and a step to each side. */
final class ScriptBoundaries {
    /** As many commands as the buffer takes: 59 characters. */
    private static final String TWELVE = "year;year;year;year;year;year;year;year;year;year;year;year";
    /** 60 characters, 11 commands and 12 years. */
    private static final String SIXTY = "year;year;year;year;year;year;year;year;year 1;year 1;year 2";

    private static final String[] COMMANDS = {
        "die 9 5", "die 19 5", "sharpen 1", "leaf 7", "leaf 17", "strike 1 2", "year", "year 3", "year 13",
        "recall 0", "recall 00", "pay 1", "pay 21"
    };

    private ScriptBoundaries() {
    }

    static void addTo(Sentences document) {
        bufferAndForm(document);
        commandsAndNumbers(document);
        effects(document);
        errorPositions(document);
        promise43Type(document);
        promise44RunScript(document);
        promise44Refused(document);
        promise45ErrorPosition(document);
        promise46FailedCommand(document);
    }

    /** Each of the commands above can be run on it; its coins have the sum 66. */
    private static LeafMint ready() {
        LeafMint mint = DieBoundaries.usedDies(2);
        mint.addDie(1, 1);
        mint.strike(2, 3);
        return mint;
    }

    private static void checkRuns(Check check, String script, int commands) {
        check.equal("\"" + script + "\"", Mints.answerOf(() -> Mints.run(ready(), script)), "" + commands);
    }

    private static void checkNoForm(Check check, String script, int position) {
        LeafMint mint = ready();
        check.fails("\"" + script + "\"", Thrown.ARGUMENT, () -> Mints.run(mint, script));
        check.equal("position in \"" + script + "\"", Mints.answerOf(mint::errorPosition), "" + position);
    }

    private static void checkFails(Check check, Supplier<LeafMint> made, String script, int command) {
        LeafMint mint = made.get();
        check.fails("\"" + script + "\"", Thrown.STATE, () -> Mints.run(mint, script));
        check.equal("command of \"" + script + "\"", Mints.answerOf(mint::failedCommand), "" + command);
        check.equal("left by \"" + script + "\"", Mints.coveredOf(mint), Mints.coveredOf(made.get()));
    }

    // ---- the terms

    private static void bufferAndForm(Sentences document) {
        String section = "Scripts";
        document.test(section, "A script is typed into a buffer of at most 60 characters and then run", check -> {
            check.equal("59 characters", TWELVE.length(), 59);
            checkRuns(check, TWELVE, 12);
            check.equal("60 characters", SIXTY.length(), 60);
            checkRuns(check, SIXTY, 11);
            LeafMint mint = ready();
            Mints.type(mint, SIXTY);
            check.fails("a 61st", Thrown.STATE, () -> mint.type('1'));
            check.equal("runs without it", mint.runScript(), 11);
            check.equal("the 60th counts", mint.year(), 12);
        });
        document.test(section, "It has the form", check -> {
            String script = "die 9 1;leaf 9;strike 0 2;year;pay 9;recall 0;sharpen 0";
            check.equal("each command", Mints.run(new LeafMint(), script), 7);
            for (String none : new String[] {"", " ", "x", "run"}) {
                check.fails("\"" + none + "\"", Thrown.ARGUMENT, () -> Mints.run(ready(), none));
            }
        });
        document.test(section, "`script = command { \";\" command`}", check -> {
            checkRuns(check, "year", 1);
            checkRuns(check, "year;year", 2);
            String[] scripts = {
                "", ";", ";year", "year;", "year;;year", "year year", "year,year", "year; year", "year ;year",
                "year:year", "year<year"
            };
            int[] positions = {0, 0, 0, 5, 5, 5, 4, 5, 5, 4, 4};
            for (int i = 0; i < scripts.length; i++) {
                checkNoForm(check, scripts[i], positions[i]);
            }
        });
        document.test(section, "where braces mean zero or more repetitions, brackets an optional part, and a"
                + " bar an alternative", check -> {
            for (int repetitions = 0; repetitions <= 11; repetitions++) {
                checkRuns(check, TWELVE.substring(0, 4 + 5 * repetitions), repetitions + 1);
                checkNoForm(check, TWELVE.substring(0, 4 + 5 * repetitions) + ";", 5 + 5 * repetitions);
            }
            checkRuns(check, "year", 1);
            checkRuns(check, "year 1", 1);
            checkNoForm(check, "year 1 1", 6);
            checkNoForm(check, "yearleaf 1", 4);
            checkNoForm(check, "leaf 1pay 1", 6);
        });
    }

    private static void commandsAndNumbers(Sentences document) {
        String section = "Scripts";
        document.test(section, "`command = \"die \" number \" \" digit | \"sharpen \" digit | \"leaf \" number"
                + " | \"strike \" digit \" \" digit | \"year\" [ \" \" number ] | \"recall \" number | \"pay \""
                + " number`", check -> {
            for (String command : COMMANDS) {
                checkRuns(check, command, 1);
                checkNoForm(check, " " + command, 0);
                checkNoForm(check, command.toUpperCase(), 0);
                int space = command.indexOf(' ');
                if (space > 0) {
                    checkNoForm(check, command.substring(0, space) + command.substring(space + 1), space);
                    checkNoForm(check, command.substring(0, space + 1) + command.substring(space), space + 1);
                    checkNoForm(check, command.replace(' ', '!'), space);
                    checkNoForm(check, command.substring(0, space + 1) + "-1", space + 1);
                }
            }
            String[] scripts = {
                "die 9", "die 9 ", "die 9 12", "die 9 5 ", "die 9 5 1", "sharpen", "sharpen 12", "sharpen 1 1",
                "leaf", "leaf 7 1", "strike 1", "strike 12", "strike 12 2", "strike 1 22", "strike 1 2 2", "year ",
                "years", "recall", "recall 0 0", "pay", "pay 1 1"
            };
            int[] positions = {5, 6, 7, 7, 7, 7, 9, 9, 4, 6, 8, 8, 8, 10, 10, 5, 4, 6, 8, 3, 5};
            for (int i = 0; i < scripts.length; i++) {
                checkNoForm(check, scripts[i], positions[i]);
            }
        });
        document.test(section, "`number = digit [ digit ]`", check -> {
            for (String verb : new String[] {"leaf ", "year ", "pay ", "recall ", "die "}) {
                String rest = verb.equals("die ") ? " 5" : "";
                String digit = verb.equals("recall ") ? "0" : "2";
                int start = verb.length();
                checkRuns(check, verb + digit + rest, 1);
                checkRuns(check, verb + "0" + digit + rest, 1);
                checkNoForm(check, verb + rest, start);
                checkNoForm(check, verb + "00" + digit + rest, start + 2);
                checkNoForm(check, verb + "1/" + rest, start + 1);
                checkNoForm(check, verb + "1:" + rest, start + 1);
                checkNoForm(check, verb + "/" + rest, start);
                checkNoForm(check, verb + ":" + rest, start);
            }
            LeafMint mint = new LeafMint();
            Mints.run(mint, "leaf 9;leaf 90;leaf 09");
            check.equal("9, 90 and 9", mint.leaves(), 108);
            checkFails(check, ScriptBoundaries::ready, "leaf 00", 0);
            check.equal("99", Mints.run(mint, "leaf 99"), 1);
        });
    }

    private static void effects(Sentences document) {
        String section = "Scripts";
        document.test(section, "The commands stand for the methods addDie, sharpen, addLeaves, strike,"
                + " passYears, recall and pay with the numbers as arguments in the order of the parameters", check -> {
            checkSame(check, "die 9 5", mint -> mint.addDie(9, 5));
            checkSame(check, "die 2 9", mint -> mint.addDie(2, 9));
            checkSame(check, "die 50 1", mint -> mint.addDie(50, 1));
            checkSame(check, "sharpen 0", mint -> mint.sharpen(0));
            checkSame(check, "sharpen 1", mint -> mint.sharpen(1));
            checkSame(check, "leaf 1", mint -> mint.addLeaves(1));
            checkSame(check, "leaf 99", mint -> mint.addLeaves(99));
            checkSame(check, "strike 0 1", mint -> mint.strike(0, 1));
            checkSame(check, "strike 1 9", mint -> mint.strike(1, 9));
            checkSame(check, "year 1", mint -> mint.passYears(1));
            checkSame(check, "year 20", mint -> mint.passYears(20));
            checkSame(check, "recall 0", mint -> mint.recall(0));
            checkSame(check, "pay 21", mint -> mint.pay(21));
            checkSame(check, "pay 66", mint -> mint.pay(66));
        });
        document.test(section, "year without a number passes 1 year", check -> {
            checkSame(check, "year", mint -> mint.passYears(1));
            checkSame(check, "year 3;year", mint -> mint.passYears(4));
            checkSame(check, "year;year", mint -> mint.passYears(2));
            checkFails(check, ScriptBoundaries::ready, "year 0", 0);
        });
        document.test(section, "The commands are executed in order, and either all of them take effect or none",
                check -> {
            String[] commands = {"die 5 1", "leaf 9", "strike 0 9", "pay 45"};
            check.equal("in order", Mints.run(new LeafMint(), String.join(";", commands)), 4);
            checkFails(check, LeafMint::new, "die 5 1;strike 0 9;leaf 9;pay 45", 1);
            checkFails(check, LeafMint::new, "die 5 1;leaf 8;strike 0 9", 2);
            checkFails(check, LeafMint::new, "die 5 1;leaf 9;pay 45;strike 0 9", 2);
            checkFails(check, LeafMint::new, "pay 5;die 5 1", 0);
            for (String change : COMMANDS) {
                checkFails(check, ScriptBoundaries::ready, change + ";sharpen 9", 1);
                checkFails(check, ScriptBoundaries::ready, "sharpen 9;" + change, 0);
                checkFails(check, ScriptBoundaries::ready, "leaf 1;" + change + ";leaf 00;year", 2);
            }
        });
    }

    private static void checkSame(Check check, String script, Consumer<LeafMint> calls) {
        LeafMint mint = ready();
        Mints.run(mint, script);
        LeafMint other = ready();
        calls.accept(other);
        check.equal(script, Mints.coveredOf(mint), Mints.coveredOf(other));
    }

    private static void errorPositions(Sentences document) {
        document.test("Scripts", "The error position of a script that does not have this form is the index of"
                + " the first character that cannot continue any script of this form, or the length of the"
                + " script if every character can and the end comes too early", check -> {
            for (String before : new String[] {"", "year;", "pay 1;leaf 99;"}) {
                for (String command : COMMANDS) {
                    checkPrefixes(check, before, command);
                }
            }
            checkNoForm(check, "", 0);
            checkNoForm(check, "year;x;x", 5);
            checkNoForm(check, "yeax;~", 3);
            checkNoForm(check, "sh1", 2);
            checkNoForm(check, "st1", 2);
            checkNoForm(check, "si", 1);
            checkNoForm(check, TWELVE + ";", 60);
            checkNoForm(check, TWELVE + "s", 59);
            checkNoForm(check, TWELVE + " ", 60);
            checkNoForm(check, SIXTY.substring(0, 59) + "x", 59);
            for (String command : COMMANDS) {
                checkAfterLongerScript(check, command);
            }
            checkAfterLongerScript(check, TWELVE);
        });
    }

    /** Each prefix of the command, by itself and with a character behind it that can stand nowhere. */
    private static void checkPrefixes(Check check, String before, String command) {
        for (int length = 0; length <= command.length(); length++) {
            String prefix = before + command.substring(0, length);
            checkNoForm(check, prefix + "~", prefix.length());
            checkNoForm(check, prefix + "~;", prefix.length());
            if (length < command.length() && !endsWithCommand(prefix)) {
                checkNoForm(check, prefix, prefix.length());
            }
        }
    }

    /** Of a script that is itself the beginning of another one. */
    private static boolean endsWithCommand(String script) {
        return script.matches(".*(year|(leaf|year|recall|pay) \\d)");
    }

    /** The end comes too early, also where the buffer held more before. */
    private static void checkAfterLongerScript(Check check, String script) {
        for (int length = script.length() - 1; length >= 0; length--) {
            String prefix = script.substring(0, length);
            if (!endsWithCommand(prefix)) {
                LeafMint mint = ready();
                Mints.type(mint, script);
                Mints.answerOf(mint::runScript);
                check.fails("\"" + prefix + "\" after a longer script", Thrown.ARGUMENT, () -> Mints.run(mint, prefix));
                check.equal("\"" + prefix + "\" after a longer script", mint.errorPosition(), length);
            }
        }
    }

    // ---- promises 43 and 44

    private static void promise43Type(Sentences document) {
        document.test("43", "Appends a character to the script buffer", check -> {
            LeafMint mint = ready();
            mint.type('y');
            mint.type('e');
            mint.type('a');
            check.fails("three characters", Thrown.ARGUMENT, mint::runScript);
            check.equal("no fourth", mint.errorPosition(), 3);
            Mints.type(mint, "year 1");
            mint.type('2');
            mint.runScript();
            check.equal("behind the others", mint.year(), 12);
        });
        document.test("43", "Returns the length of the script buffer", check -> {
            LeafMint mint = new LeafMint();
            for (int length = 1; length <= 60; length++) {
                check.equal("length", mint.type('x'), length);
            }
            check.fails("run", Thrown.ARGUMENT, mint::runScript);
            check.equal("of an empty buffer", mint.type('x'), 1);
        });
        document.test("43", "Throws `IllegalArgumentException` if the character code is not between 32 and 126",
                check -> {
            for (char code : new char[] {0, 1, 10, 31, 127, 128, 160, 255, 256, 32 + 256, 32 + 32768, 65535}) {
                check.refused("code " + (int) code, Thrown.ARGUMENT, ScriptBoundaries::ready, mint -> mint.type(code));
            }
            for (char code = 32; code <= 126; code++) {
                check.equal("code " + (int) code, new LeafMint().type(code), 1);
            }
        });
        document.test("43", "Throws `IllegalStateException` if the script buffer has 60 characters", check -> {
            check.equal("59 characters", typed(59).type('~'), 60);
            check.refusedAsMade("60 characters", Thrown.STATE, () -> typed(60), mint -> mint.type('~'));
            LeafMint mint = typed(60);
            mint.runScript();
            check.equal("empty again", mint.type('~'), 1);
        });
    }

    private static LeafMint typed(int characters) {
        LeafMint mint = ready();
        Mints.type(mint, SIXTY.substring(0, characters));
        return mint;
    }

    private static void promise44RunScript(Sentences document) {
        document.test("44", "Runs the script in the script buffer", check -> {
            LeafMint mint = ready();
            Mints.run(mint, "year 2;leaf 9;die 9 9");
            check.equal("year", mint.year(), 2);
            check.equal("added", mint.addedWeight(), 306);
            check.equal("dies", mint.dieCount(), 4);
            Mints.run(mint, SIXTY);
            check.equal("60 characters", mint.year(), 14);
        });
        document.test("44", "The buffer is empty afterwards, also if an exception is thrown", check -> {
            LeafMint mint = ready();
            Mints.run(mint, "leaf 1");
            check.equal("after a script", mint.type('y'), 1);
            check.fails("without its form", Thrown.ARGUMENT, mint::runScript);
            check.equal("after a script without its form", mint.type('p'), 1);
            check.fails("which fails", Thrown.STATE, () -> Mints.run(mint, "ay 99"));
            check.equal("after a script that fails", mint.type('y'), 1);
            check.equal("which runs", Mints.run(mint, "ear"), 1);
            check.fails("an empty buffer", Thrown.ARGUMENT, mint::runScript);
            check.equal("an empty buffer", mint.errorPosition(), 0);
            check.equal("nothing runs twice", mint.year(), 1);
            LeafMint full = typed(60);
            full.runScript();
            check.equal("after 60 characters", full.type('y'), 1);
        });
        document.test("44", "Returns the number of commands", check -> {
            for (int commands = 1; commands <= 12; commands++) {
                checkRuns(check, TWELVE.substring(0, 5 * commands - 1), commands);
            }
        });
    }

    private static void promise44Refused(Sentences document) {
        document.test("44", "Throws `IllegalArgumentException` if the script does not have the required form",
                check -> {
            String[] scripts = {"", "yea", "year;", "year 1;leaf", "leaf 1;year;x", SIXTY.substring(0, 59)};
            for (String script : scripts) {
                LeafMint mint = ready();
                check.fails("\"" + script + "\"", Thrown.ARGUMENT, () -> Mints.run(mint, script));
                check.fails("no command of it has failed", Thrown.ELEMENT, mint::failedCommand);
                check.equal("no command of it runs", Mints.coveredOf(mint), Mints.coveredOf(ready()));
            }
            checkRuns(check, "year", 1);
        });
        document.test("44", "errorPosition then returns its error position", check -> {
            checkNoForm(check, "", 0);
            checkNoForm(check, "~", 0);
            checkNoForm(check, "y", 1);
            checkNoForm(check, "y~", 1);
            checkNoForm(check, TWELVE + "~", 59);
            checkNoForm(check, TWELVE + ";", 60);
        });
        document.test("44", "Throws `IllegalStateException` if the method for a command throws an exception", check -> {
            Supplier<LeafMint> five = () -> DieBoundaries.usedDies(5);
            checkFails(check, ScriptBoundaries::ready, "die 0 1", 0);
            checkFails(check, ScriptBoundaries::ready, "die 51 1", 0);
            checkFails(check, ScriptBoundaries::ready, "die 50 0", 0);
            checkFails(check, five, "die 50 1", 0);
            checkFails(check, ScriptBoundaries::ready, "die 10 1", 0);
            checkFails(check, ScriptBoundaries::ready, "sharpen 3", 0);
            checkFails(check, five, "sharpen 5", 0);
            checkFails(check, () -> Mints.worn(0), "sharpen 0", 0);
            checkFails(check, ScriptBoundaries::ready, "leaf 0", 0);
            checkFails(check, () -> Mints.stocked(999), "leaf 1", 0);
            checkFails(check, ScriptBoundaries::ready, "strike 3 1", 0);
            checkFails(check, ScriptBoundaries::ready, "strike 0 0", 0);
            checkFails(check, () -> Mints.stocked(8, 5, 9), "strike 0 1", 0);
            checkFails(check, () -> Mints.withCoins(40), "strike 0 1", 0);
            checkFails(check, () -> Mints.worn(30), "strike 0 1", 0);
            checkFails(check, ScriptBoundaries::ready, "year 0", 0);
            checkFails(check, ScriptBoundaries::ready, "year 21", 0);
            checkFails(check, ScriptBoundaries::ready, "recall 1", 0);
            checkFails(check, LeafMint::new, "recall 0", 0);
            checkFails(check, ScriptBoundaries::ready, "pay 0", 0);
            checkFails(check, ScriptBoundaries::ready, "pay 67", 0);
            for (String taken : new String[] {"die 2 1", "die 50 9", "sharpen 1", "leaf 1", "leaf 99", "strike 1 1",
                "strike 1 9", "year 1", "year 20", "recall 0", "pay 66"}) {
                checkRuns(check, taken, 1);
            }
        });
        document.test("44", "no command takes effect, and failedCommand then returns the index of that command",
                check -> {
            for (int command = 0; command < 12; command++) {
                checkFails(check, ScriptBoundaries::ready, TWELVE.substring(0, 5 * command) + "pay 0", command);
            }
            checkFails(check, ScriptBoundaries::ready, "pay 0;pay 0;pay 0", 0);
            checkFails(check, ScriptBoundaries::ready, "pay 10;pay 00;pay 0", 1);
        });
    }

    // ---- promises 45 and 46

    private static void promise45ErrorPosition(Sentences document) {
        document.test("45", "Returns the error position of the latest script that did not have the required"
                + " form", check -> {
            LeafMint mint = ready();
            check.fails("first", Thrown.ARGUMENT, () -> Mints.run(mint, "year 5x"));
            check.equal("first", mint.errorPosition(), 6);
            check.equal("asked again", mint.errorPosition(), 6);
            Mints.run(mint, "year 5");
            check.equal("kept by a script that runs", mint.errorPosition(), 6);
            check.fails("one that fails", Thrown.STATE, () -> Mints.run(mint, "pay 0"));
            check.equal("kept by a script that fails", mint.errorPosition(), 6);
            mint.type('y');
            check.equal("kept while typing", mint.errorPosition(), 6);
            check.fails("second", Thrown.ARGUMENT, mint::runScript);
            check.equal("second", mint.errorPosition(), 1);
            check.fails("third", Thrown.ARGUMENT, mint::runScript);
            check.equal("third, which is empty", mint.errorPosition(), 0);
        });
        document.test("45", "Throws `NoSuchElementException` if there was no such script", check -> {
            check.refusedAsMade("no script", Thrown.ELEMENT, LeafMint::new, LeafMint::errorPosition);
            LeafMint mint = ready();
            Mints.run(mint, "year");
            check.fails("a script that runs", Thrown.ELEMENT, mint::errorPosition);
            check.fails("a script that fails", Thrown.STATE, () -> Mints.run(mint, "pay 0"));
            check.fails("a script that fails", Thrown.ELEMENT, mint::errorPosition);
            Mints.type(mint, "yeast");
            check.fails("a script that is typed alone", Thrown.ELEMENT, mint::errorPosition);
            check.fails("it is run", Thrown.ARGUMENT, mint::runScript);
            check.equal("it is run", mint.errorPosition(), 3);
        });
    }

    private static void promise46FailedCommand(Sentences document) {
        document.test("46", "Returns the index of the command that failed in the latest script with a failed"
                + " command",
                check -> {
            LeafMint mint = ready();
            check.fails("first", Thrown.STATE, () -> Mints.run(mint, "year;year;pay 0;pay 0"));
            check.equal("first", mint.failedCommand(), 2);
            check.equal("asked again", mint.failedCommand(), 2);
            Mints.run(mint, "year");
            check.equal("kept by a script that runs", mint.failedCommand(), 2);
            check.fails("one without its form", Thrown.ARGUMENT, () -> Mints.run(mint, "pay 0;"));
            check.equal("kept by a script without its form", mint.failedCommand(), 2);
            check.fails("a refused call", Thrown.ARGUMENT, () -> mint.pay(0));
            check.equal("kept by a refused call", mint.failedCommand(), 2);
            check.fails("second", Thrown.STATE, () -> Mints.run(mint, "year;pay 0"));
            check.equal("second", mint.failedCommand(), 1);
        });
        document.test("46", "Returns the index of the command, counted from 0", check -> {
            checkFails(check, ScriptBoundaries::ready, "pay 0", 0);
            checkFails(check, ScriptBoundaries::ready, "pay 0;year", 0);
            checkFails(check, ScriptBoundaries::ready, "year;pay 0", 1);
            checkFails(check, ScriptBoundaries::ready, TWELVE.substring(0, 50) + "year 0", 10);
            checkFails(check, ScriptBoundaries::ready, TWELVE.substring(0, 55) + "pay 0", 11);
        });
        document.test("46", "Throws `NoSuchElementException` if there was no such script", check -> {
            check.refusedAsMade("no script", Thrown.ELEMENT, LeafMint::new, LeafMint::failedCommand);
            LeafMint mint = ready();
            Mints.run(mint, "year");
            check.fails("a script that runs", Thrown.ELEMENT, mint::failedCommand);
            check.fails("a script without its form", Thrown.ARGUMENT, () -> Mints.run(mint, "pay 0;"));
            check.fails("a script without its form", Thrown.ELEMENT, mint::failedCommand);
            check.fails("a refused call", Thrown.ARGUMENT, () -> mint.pay(0));
            check.fails("a refused call", Thrown.ELEMENT, mint::failedCommand);
            check.fails("a script that fails", Thrown.STATE, () -> Mints.run(mint, "pay 0"));
            check.equal("a script that fails", mint.failedCommand(), 0);
        });
    }
}
