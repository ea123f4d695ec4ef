/** The boundary cases of promises 9 to 12 and 30: the text buffer, errorPosition, runText. */
public final class BoundaryTextTests {
    private static final int LATEST = CausalTable.LATEST;
    private static final int SIBLINGS = CausalTable.SIBLINGS;
    private static final int GREATEST = CausalTable.GREATEST;
    private static final int VALID = CausalTable.NONE;

    private static final String LETTERS = "lvgaiedm";
    private static final String LETTERS_WITH_A_NUMBER = "lvgaie";

    /** A valid text of 80 characters: 15 commands of three characters, 3 of six. */
    private static final String FULL = "d00;".repeat(15) + "i00,15;i00,15;i00,15";
    private static final String TWENTY_COMMANDS = "d00;".repeat(19) + "d00";

    public static void main(String[] args) {
        Check.runAll(BoundaryTextTests.class, 9, 10, 11, 12, 30);
    }

    private static void fill(CausalTable t) {
        Check.write(t, FULL);
    }

    // ---- promise 9: appendText

    static void promise09_appendText_character31IsRefused() {
        Check.refuses(Check.ARGUMENT, "appendText(31)", t -> t.appendText(31));
    }

    static void promise09_appendText_character32IsTaken() {
        CausalTable t = new CausalTable();
        Check.due("appendText", t.appendText(32), 1);
        Check.due("textLength", t.textLength(), 1);
        Check.due("errorPosition", t.errorPosition(), 0);
    }

    static void promise09_appendText_character126IsTaken() {
        CausalTable t = Check.written("d00");
        Check.due("appendText", t.appendText(126), 4);
        Check.due("textLength", t.textLength(), 4);
        Check.due("errorPosition", t.errorPosition(), 3);
    }

    static void promise09_appendText_character127IsRefused() {
        Check.refuses(Check.ARGUMENT, "appendText(127)", t -> t.appendText(127));
    }

    static void promise09_appendText_eachCharacterBetweenIsTaken() {
        CausalTable t = new CausalTable();
        for (int character = 32; character <= 126; character++) {
            if (t.textLength() == 80) {
                t.clearText();
            }
            int length = t.textLength();
            Check.due("appendText(" + character + ")", t.appendText(character), length + 1);
        }
    }

    static void promise09_appendText_characterFarOffIsRefused() {
        for (int far : Check.FAR_OFF) {
            Check.refuses(Check.ARGUMENT, "appendText(" + far + ")", t -> t.appendText(far));
        }
        for (int character : new int[] {-1, 0, 9, 10, 128, 160, 255}) {
            Check.refuses(Check.ARGUMENT, "appendText(" + character + ")",
                    t -> t.appendText(character));
        }
    }

    static void promise09_appendText_characterThatIsADigitIn16BitsIsRefused() {
        Check.refuses(Check.ARGUMENT, "appendText of 65536 + ';'", t -> t.appendText(65536 + ';'));
        Check.refuses(Check.ARGUMENT, "appendText of 256 + ';'", t -> t.appendText(256 + ';'));
        Check.refuses(Check.ARGUMENT, "appendText of ';' - 65536", t -> t.appendText(';' - 65536));
    }

    static void promise09_appendText_theFirstAnswers1() {
        Check.due("appendText", new CausalTable().appendText('d'), 1);
    }

    static void promise09_appendText_the80thIsTaken() {
        CausalTable t = Check.written(FULL.substring(0, 79));
        Check.due("textLength", t.textLength(), 79);
        Check.due("appendText", t.appendText(FULL.charAt(79)), 80);
        Check.due("errorPosition", t.errorPosition(), VALID);
    }

    static void promise09_appendText_the81stIsRefused() {
        Check.refusesAfter(BoundaryTextTests::fill, Check.STATE, "appendText to 80 characters",
                t -> t.appendText('0'));
        Check.refusesAfter(BoundaryTextTests::fill, Check.STATE, "appendText to 80 characters",
                t -> t.appendText(32));
        Check.refusesAfter(BoundaryTextTests::fill, Check.STATE, "appendText to 80 characters",
                t -> t.appendText(126));
    }

    static void promise09_appendText_wrongCharacterComesBeforeTheFullText() {
        for (int character : new int[] {31, 127, -1, Integer.MAX_VALUE, Integer.MIN_VALUE}) {
            Check.refusesAfter(BoundaryTextTests::fill, Check.ARGUMENT,
                    "appendText(" + character + ") to 80 characters",
                    t -> t.appendText(character));
        }
    }

    static void promise09_appendText_isNotUndoable() {
        CausalTable t = new CausalTable();
        t.put(0, 0, LATEST, 1);
        t.appendText('d');
        Check.due("savedStates", t.savedStates(), 1);
        t.undo();
        Check.due("textLength", t.textLength(), 1);
    }

    static void promise09_appendText_goesBehindTheText() {
        CausalTable t = Check.written("l00,1");
        t.appendText('2');
        t.runText();
        Check.due("latest", t.latest(0, 0), 12);
    }

    // ---- promise 10: clearText

    static void promise10_clearText_ofTheEmptyTextAnswers0() {
        CausalTable t = new CausalTable();
        Check.due("clearText", t.clearText(), 0);
        Check.due("textLength", t.textLength(), 0);
    }

    static void promise10_clearText_ofOneCharacterAnswers1() {
        Check.due("clearText", Check.written("d").clearText(), 1);
    }

    static void promise10_clearText_of79CharactersAnswers79() {
        Check.due("clearText", Check.written(TWENTY_COMMANDS).clearText(), 79);
    }

    static void promise10_clearText_ofTheFullTextAnswers80() {
        CausalTable t = Check.written(FULL);
        Check.due("clearText", t.clearText(), 80);
        Check.due("textLength", t.textLength(), 0);
        Check.due("errorPosition", t.errorPosition(), 0);
    }

    static void promise10_clearText_againAnswers0() {
        CausalTable t = Check.written("d00");
        t.clearText();
        Check.due("clearText", t.clearText(), 0);
    }

    static void promise10_clearText_leavesRoomFor80Again() {
        CausalTable t = Check.written(FULL);
        t.clearText();
        for (int length = 1; length <= 80; length++) {
            Check.due("appendText", t.appendText('m'), length);
        }
        Check.due("appendText", Check.thrown(t, u -> u.appendText('m')), Check.STATE);
    }

    static void promise10_clearText_nothingOfTheOldTextComesBack() {
        CausalTable t = Check.written("l00,12;d10");
        t.clearText();
        t.appendText('l');
        Check.due("errorPosition", t.errorPosition(), 1);
        Check.due("runText", Check.thrown(t, CausalTable::runText), Check.STATE);
    }

    static void promise10_clearText_isNotUndoable() {
        CausalTable t = new CausalTable();
        t.put(0, 0, LATEST, 1);
        Check.write(t, "d00");
        t.clearText();
        Check.due("savedStates", t.savedStates(), 1);
        t.undo();
        Check.due("textLength", t.textLength(), 0);
    }

    // ---- promise 11: errorPosition

    /** The answer for a text, and what runText makes of it. */
    private static void dueError(String text, int want) {
        CausalTable t = Check.written(text);
        Check.due("errorPosition of \"" + text + "\"", t.errorPosition(), want);
        Check.due("runText of \"" + text + "\"", Check.thrown(t, CausalTable::runText),
                want == VALID ? null : Check.STATE);
    }

    /** Each character at one place: those that may stand there, and all others an error there. */
    private static void dueCharacters(String before, String taken, int answerIfTaken) {
        for (char c = 32; c <= 126; c++) {
            boolean isTaken = taken.indexOf(c) >= 0;
            dueError(before + c, isTaken ? answerIfTaken : before.length());
        }
    }

    static void promise11_errorPosition_ofTheEmptyTextIs0() {
        dueError("", 0);
    }

    static void promise11_errorPosition_ofOneCommandIsNone() {
        for (String text : new String[] {"l00,1", "v11,2", "g22,3", "a33,4", "a04,-5", "i15,6",
            "e20,7", "d31", "m01"}) {
            dueError(text, VALID);
        }
    }

    static void promise11_errorPosition_ofATextThatEndsTooEarlyIsItsLength() {
        for (String text : new String[] {"l35,", "v35,", "g35,", "a35,-", "i35,", "e35,", "d3",
            "m3", "d00;", "l00,999;", "a00,-99;v11,"}) {
            for (int length = 0; length <= text.length(); length++) {
                String begun = text.substring(0, length);
                boolean isWhole = begun.equals("d00") || begun.matches("[la]00,-?9+")
                        || begun.equals("a00,-99");
                dueError(begun, isWhole ? VALID : length);
            }
        }
    }

    static void promise11_errorPosition_firstCharacterIsALetterOfACommand() {
        dueCharacters("", LETTERS, 1);
    }

    static void promise11_errorPosition_firstCharacterOfALaterCommandIsToo() {
        dueCharacters("d00;", LETTERS, 5);
    }

    static void promise11_errorPosition_replicaIsADigitFrom0To3() {
        for (char letter : LETTERS.toCharArray()) {
            dueCharacters("" + letter, "0123", 2);
        }
    }

    static void promise11_errorPosition_rowIsADigitFrom0To5() {
        for (char letter : LETTERS_WITH_A_NUMBER.toCharArray()) {
            dueCharacters(letter + "3", "012345", 3);
        }
        dueCharacters("d3", "012345", VALID);
    }

    static void promise11_errorPosition_secondReplicaOfAMergeIsAnotherOne() {
        dueCharacters("m0", "123", VALID);
        dueCharacters("m1", "023", VALID);
        dueCharacters("m2", "013", VALID);
        dueCharacters("m3", "012", VALID);
    }

    static void promise11_errorPosition_commaStandsBeforeTheNumber() {
        for (char letter : LETTERS_WITH_A_NUMBER.toCharArray()) {
            dueCharacters(letter + "35", ",", 4);
        }
    }

    static void promise11_errorPosition_nothingButASemicolonFollowsADeletion() {
        dueCharacters("d35", ";", 4);
    }

    static void promise11_errorPosition_nothingButASemicolonFollowsAMerge() {
        dueCharacters("m30", ";", 4);
    }

    static void promise11_errorPosition_numberBeginsWithADigit() {
        for (char letter : "lvgie".toCharArray()) {
            dueCharacters(letter + "00,", "0123456789", VALID);
        }
    }

    static void promise11_errorPosition_amountBeginsWithADigitBut0OrAMinus() {
        for (char c = 32; c <= 126; c++) {
            boolean isDigit = c >= '1' && c <= '9';
            dueError("a00," + c, isDigit ? VALID : c == '-' ? 5 : 4);
        }
    }

    static void promise11_errorPosition_behindTheMinusStandsADigitBut0() {
        dueCharacters("a00,-", "123456789", VALID);
    }

    static void promise11_errorPosition_behindADigitStandsADigitOrASemicolon() {
        for (char c = 32; c <= 126; c++) {
            boolean isDigit = c >= '0' && c <= '9';
            for (char letter : "lvg".toCharArray()) {
                dueError(letter + "00,1" + c, isDigit ? VALID : c == ';' ? 6 : 5);
                dueError(letter + "00,12" + c, isDigit ? VALID : c == ';' ? 7 : 6);
            }
            dueError("a00,1" + c, isDigit ? VALID : c == ';' ? 6 : 5);
            dueError("a00,-1" + c, isDigit ? VALID : c == ';' ? 7 : 6);
            boolean isElement = c >= '0' && c <= '5';
            dueError("i00,1" + c, isElement ? VALID : c == ';' ? 6 : 5);
            dueError("e00,1" + c, isElement ? VALID : c == ';' ? 6 : 5);
        }
    }

    static void promise11_errorPosition_behindTheLastDigitStandsASemicolon() {
        for (char letter : "lvg".toCharArray()) {
            dueCharacters(letter + "00,0", ";", 6);
            dueCharacters(letter + "00,123", ";", 8);
        }
        dueCharacters("a00,12", ";", 7);
        dueCharacters("a00,-12", ";", 8);
        for (char letter : "ie".toCharArray()) {
            dueCharacters(letter + "00,0", ";", 6);
            dueCharacters(letter + "00,2", ";", 6);
            dueCharacters(letter + "00,10", ";", 7);
            dueCharacters(letter + "00,15", ";", 7);
        }
    }

    static void promise11_errorPosition_value0IsTaken() {
        for (char letter : "lvg".toCharArray()) {
            dueError(letter + "00,0", VALID);
        }
    }

    static void promise11_errorPosition_value999IsTaken() {
        for (char letter : "lvg".toCharArray()) {
            dueError(letter + "00,999", VALID);
        }
    }

    static void promise11_errorPosition_value1000IsWrongAtItsLastDigit() {
        for (char letter : "lvg".toCharArray()) {
            dueError(letter + "00,1000", 7);
            dueError(letter + "00,9999", 7);
            dueError(letter + "00,10000", 7);
        }
    }

    static void promise11_errorPosition_eachValueFrom0To999IsTaken() {
        for (int value = 0; value <= 1000; value++) {
            dueError("v00," + value, value <= 999 ? VALID : 7);
        }
    }

    static void promise11_errorPosition_leading0OfAValueIsWrongBehindIt() {
        for (char letter : "lvg".toCharArray()) {
            dueError(letter + "00,00", 5);
            dueError(letter + "00,01", 5);
            dueError(letter + "00,007", 5);
        }
    }

    static void promise11_errorPosition_minusBeforeAValueIsWrong() {
        for (char letter : "lvg".toCharArray()) {
            dueError(letter + "00,-1", 4);
        }
    }

    static void promise11_errorPosition_amount0IsWrong() {
        dueError("a00,0", 4);
        dueError("a00,-0", 5);
        dueError("a00,01", 4);
        dueError("a00,-01", 5);
    }

    static void promise11_errorPosition_amount1IsTaken() {
        dueError("a00,1", VALID);
        dueError("a00,-1", VALID);
    }

    static void promise11_errorPosition_amount99IsTaken() {
        dueError("a00,99", VALID);
        dueError("a00,-99", VALID);
    }

    static void promise11_errorPosition_amount100IsWrongAtItsLastDigit() {
        dueError("a00,100", 6);
        dueError("a00,-100", 7);
        dueError("a00,999", 6);
        dueError("a00,-999", 7);
    }

    static void promise11_errorPosition_eachAmountFrom1To99IsTaken() {
        for (int amount = 1; amount <= 100; amount++) {
            dueError("a00," + amount, amount <= 99 ? VALID : 6);
            dueError("a00,-" + amount, amount <= 99 ? VALID : 7);
        }
    }

    static void promise11_errorPosition_secondMinusIsWrong() {
        dueError("a00,--1", 5);
        dueError("a00,1-", 5);
        dueError("a00,-1-", 6);
    }

    static void promise11_errorPosition_element0IsTaken() {
        dueError("i00,0", VALID);
        dueError("e00,0", VALID);
    }

    static void promise11_errorPosition_element15IsTaken() {
        dueError("i00,15", VALID);
        dueError("e00,15", VALID);
    }

    static void promise11_errorPosition_element16IsWrongAtItsLastDigit() {
        dueError("i00,16", 5);
        dueError("e00,16", 5);
    }

    static void promise11_errorPosition_eachElementFrom0To15IsTaken() {
        for (int element = 0; element <= 99; element++) {
            dueError("i00," + element, element <= 15 ? VALID : 5);
            dueError("e00," + element, element <= 15 ? VALID : 5);
        }
    }

    static void promise11_errorPosition_elementOfThreeDigitsIsWrongAtItsFirstWrongOne() {
        for (int element = 100; element <= 999; element++) {
            dueError("i00," + element, element < 160 ? 6 : 5);
            dueError("e00," + element, element < 160 ? 6 : 5);
        }
    }

    static void promise11_errorPosition_leading0OfAnElementIsWrongBehindIt() {
        dueError("i00,00", 5);
        dueError("e00,01", 5);
        dueError("i00,015", 5);
    }

    static void promise11_errorPosition_minusBeforeAnElementIsWrong() {
        dueError("i00,-1", 4);
        dueError("e00,-1", 4);
    }

    static void promise11_errorPosition_oneSemicolonStandsBetweenCommands() {
        dueError("d00;m01", VALID);
        dueError("d00;;m01", 4);
        dueError("d00m01", 3);
        dueError("l00,1;d00", VALID);
        dueError("l00,1d00", 5);
        dueError("l00,1;;d00", 6);
    }

    static void promise11_errorPosition_semicolonBeforeTheFirstCommandIsWrong() {
        dueError(";", 0);
        dueError(";d00", 0);
    }

    static void promise11_errorPosition_semicolonBehindTheLastCommandEndsTooEarly() {
        dueError("d00;", 4);
        dueError("l00,1;", 6);
        dueError("a00,-99;", 8);
        dueError("m01;", 4);
    }

    static void promise11_errorPosition_upperCaseLettersAreWrong() {
        for (char letter : "LVGAIEDM".toCharArray()) {
            dueError(letter + "00,1", 0);
        }
    }

    static void promise11_errorPosition_spacesAreWrong() {
        dueError(" d00", 0);
        dueError("d 00", 1);
        dueError("d00 ", 3);
        dueError("d00; d00", 4);
        dueError("l00, 1", 4);
        dueError("l00,1 ", 5);
    }

    static void promise11_errorPosition_ofSeveralErrorsIsTheFirst() {
        dueError("d06;d40;x", 2);
        dueError("d05;d40;x", 5);
        dueError("d05;d30;x", 8);
    }

    static void promise11_errorPosition_ofAFullValidTextIsNone() {
        Check.due("length", FULL.length(), 80);
        dueError(FULL, VALID);
    }

    static void promise11_errorPosition_of79ValidCharactersIsNone() {
        Check.due("length", TWENTY_COMMANDS.length(), 79);
        dueError(TWENTY_COMMANDS, VALID);
    }

    static void promise11_errorPosition_ofAFullTextThatEndsTooEarlyIs80() {
        dueError(TWENTY_COMMANDS + ";", 80);
    }

    static void promise11_errorPosition_validTextsOfAnyLengthBeginATextOf80() {
        // What these would need to be valid stands behind the 80th character.
        dueError("d00;".repeat(19) + "l00,", 80);
        dueError("d00;".repeat(19) + "l00;", 79);
        dueError("d00;".repeat(18) + "d00;d00;", 80);
        dueError("i00,1;".repeat(13) + "d0", 80);
        dueError("i00,1;".repeat(13) + "m3", 80);
        dueError("i00,1;".repeat(13) + "d4", 79);
    }

    static void promise11_errorPosition_ofTheLastOf80CharactersIs79() {
        dueError(FULL.substring(0, 79) + "6", 79);
        dueError(FULL.substring(0, 79) + "x", 79);
        dueError(TWENTY_COMMANDS + ",", 79);
    }

    static void promise11_errorPosition_changesNothing() {
        Check.changesNothing("errorPosition()", CausalTable::errorPosition);
        for (String text : new String[] {"", "d00;", "d06", FULL}) {
            Check.changesNothingAfter(t -> Check.write(t, text), "errorPosition()",
                    CausalTable::errorPosition);
        }
    }

    static void promise11_errorPosition_againAnswersTheSame() {
        CausalTable t = Check.written("d00;l06");
        Check.due("errorPosition", t.errorPosition(), 6);
        Check.due("errorPosition", t.errorPosition(), 6);
        t.clearText();
        Check.due("errorPosition", t.errorPosition(), 0);
    }

    // ---- promise 12: runText

    static void promise12_runText_ofTheEmptyTextIsRefused() {
        Check.refusesAfter(Check::nothing, Check.STATE, "runText of nothing",
                CausalTable::runText);
        Check.refusesAfter(t -> {
            Check.used(t);
            t.clearText();
        }, Check.STATE, "runText of nothing", CausalTable::runText);
    }

    static void promise12_runText_ofATextThatEndsTooEarlyIsRefused() {
        for (String text : new String[] {"d0", "v00,5;", "v00,5;v10,", "a00,5;a00,-"}) {
            Check.refusesAfter(t -> Check.write(t, text), Check.STATE, "runText of " + text,
                    CausalTable::runText);
        }
    }

    static void promise12_runText_withAWrongLastCharacterExecutesNothing() {
        for (String text : new String[] {"v00,5;m01;d06", "v00,5;m01;m11", "v00,5;a00,0",
            "v00,5;i00,16", "v00,5;l00,1000", "v00,5;d00,"}) {
            Check.refusesAfter(t -> {
                Check.used(t);
                Check.write(t, text);
            }, Check.STATE, "runText of " + text, CausalTable::runText);
        }
    }

    static void promise12_runText_ofAFullTextThatEndsTooEarlyIsRefused() {
        Check.refusesAfter(t -> Check.write(t, TWENTY_COMMANDS + ";"), Check.STATE,
                "runText of 80 characters", CausalTable::runText);
    }

    static void promise12_runText_ofOneCommandAnswers1() {
        for (String text : new String[] {"l00,1", "v00,1", "g00,1", "a00,1", "i00,1", "e00,1",
            "d00", "m01"}) {
            Check.due("runText of " + text, Check.written(text).runText(), 1);
        }
    }

    static void promise12_runText_ofTwoCommandsAnswers2() {
        Check.due("runText", Check.written("d00;m01").runText(), 2);
    }

    static void promise12_runText_ofTheMostCommandsAnswers20() {
        CausalTable t = Check.written(TWENTY_COMMANDS);
        Check.due("runText", t.runText(), 20);
        Check.due("clock", t.clock(0), 20);
    }

    static void promise12_runText_ofAFullTextOf80CharactersExecutesItsLast() {
        CausalTable t = Check.written(FULL);
        Check.due("runText", t.runText(), 18);
        Check.due("clock", t.clock(0), 18);
        Check.due("elements", t.elements(0, 0), 1 << 15);
    }

    static void promise12_runText_theTextStays() {
        CausalTable t = Check.written("a00,5;d10");
        t.runText();
        Check.due("textLength", t.textLength(), 9);
        Check.due("errorPosition", t.errorPosition(), VALID);
        Check.due("runText again", t.runText(), 2);
        Check.due("counter", t.counter(0, 0), 10);
    }

    static void promise12_runText_isUndoneAsOneCall() {
        Check.undoable("runText", t -> {
            Check.write(t, "v00,5;v10,7;m01;a01,-3;i05,15;e05,15;d00;l20,3;g30,9");
            return t.runText();
        });
    }

    static void promise12_runText_of20CommandsDiscardsNoMoreThanOneSavedState() {
        CausalTable t = new CausalTable();
        for (int i = 0; i < 6; i++) {
            t.add(3, 5, 1);
        }
        Check.write(t, TWENTY_COMMANDS);
        t.runText();
        Check.due("savedStates", t.savedStates(), 6);
        for (int i = 5; i >= 0; i--) {
            Check.due("undo", t.undo(), i);
        }
        Check.due("counter", t.counter(3, 5), 1);
    }

    static void promise12_runText_thatChangesNothingIsSavedStill() {
        CausalTable t = Check.written("m01");
        t.runText();
        Check.due("savedStates", t.savedStates(), 1);
    }

    static void promise12_runText_commandsAreExecutedInTheirOrder() {
        Check.due("latest", Check.ran("l00,1;l00,2").latest(0, 0), 2);
        Check.due("latest", Check.ran("l00,2;l00,1").latest(0, 0), 1);
        Check.due("elements", Check.ran("i00,1;e00,1").elements(0, 0), 0);
        Check.due("elements", Check.ran("e00,1;i00,1").elements(0, 0), 2);
        Check.due("exists", Check.ran("l00,1;d00").exists(0, 0), false);
        Check.due("exists", Check.ran("d00;l00,1").exists(0, 0), true);
        Check.due("latest", Check.ran("m01;l00,1").latest(1, 0), -1);
        Check.due("latest", Check.ran("l00,1;m01").latest(1, 0), 1);
    }

    /** A text does to a new object just what some calls do. */
    private static void dueSame(String text, Check.Script calls) {
        Check.same("runText of " + text, Check.state(Check.ran(text)),
                Check.state(Check.made(calls)));
    }

    static void promise12_runText_leastAndGreatestValueArePut() {
        dueSame("l00,0;v00,0;g00,0;l05,999;v05,999;g05,999", t -> {
            for (int row = 0; row <= 5; row += 5) {
                for (int column = LATEST; column <= GREATEST; column++) {
                    t.put(0, row, column, row == 0 ? 0 : 999);
                }
            }
        });
    }

    static void promise12_runText_valuesOfOneTwoAndThreeDigitsArePut() {
        dueSame("l00,9;l01,10;l02,99;l03,100;l04,109;l05,990", t -> {
            t.put(0, 0, LATEST, 9);
            t.put(0, 1, LATEST, 10);
            t.put(0, 2, LATEST, 99);
            t.put(0, 3, LATEST, 100);
            t.put(0, 4, LATEST, 109);
            t.put(0, 5, LATEST, 990);
        });
    }

    static void promise12_runText_leastAndGreatestAmountAreAdded() {
        dueSame("a00,1;a01,99;a02,-1;a03,-99", t -> {
            t.add(0, 0, 1);
            t.add(0, 1, 99);
            t.add(0, 2, -1);
            t.add(0, 3, -99);
        });
    }

    static void promise12_runText_minusIsOfItsOwnAmountAlone() {
        dueSame("a00,-5;a00,7;v01,3", t -> {
            t.add(0, 0, -5);
            t.add(0, 0, 7);
            t.put(0, 1, SIBLINGS, 3);
        });
    }

    static void promise12_runText_leastAndGreatestElementAreIncluded() {
        dueSame("i00,0;i00,15;i35,0;i35,15", t -> {
            t.include(0, 0, 0);
            t.include(0, 0, 15);
            t.include(3, 5, 0);
            t.include(3, 5, 15);
        });
    }

    static void promise12_runText_leastAndGreatestElementAreExcluded() {
        dueSame("i00,0;i00,1;i00,14;i00,15;e00,0;e00,15", t -> {
            t.include(0, 0, 0);
            t.include(0, 0, 1);
            t.include(0, 0, 14);
            t.include(0, 0, 15);
            t.exclude(0, 0, 0);
            t.exclude(0, 0, 15);
        });
    }

    static void promise12_runText_eachLetterReachesFirstAndLastReplicaAndRow() {
        dueSame("l00,1;v00,1;g00,1;a00,1;i00,1", t -> oneEach(t, 0, 0));
        dueSame("l35,1;v35,1;g35,1;a35,1;i35,1", t -> oneEach(t, 3, 5));
        dueSame("l00,1;v00,1;g00,1;a00,1;i00,1;d00", t -> {
            oneEach(t, 0, 0);
            t.delete(0, 0);
        });
        dueSame("l35,1;v35,1;g35,1;a35,1;i35,1;d35", t -> {
            oneEach(t, 3, 5);
            t.delete(3, 5);
        });
    }

    private static void oneEach(CausalTable t, int replica, int row) {
        t.put(replica, row, LATEST, 1);
        t.put(replica, row, SIBLINGS, 1);
        t.put(replica, row, GREATEST, 1);
        t.add(replica, row, 1);
        t.include(replica, row, 1);
    }

    static void promise12_runText_eachPairIsMergedAsMergeDoes() {
        for (int from = 0; from < 4; from++) {
            for (int to = 0; to < 4; to++) {
                int f = from;
                int s = to;
                if (f != s) {
                    dueSame("v00,1;v10,1;v20,1;v30,1;m" + f + s, t -> {
                        for (int r = 0; r < 4; r++) {
                            t.put(r, 0, SIBLINGS, 1);
                        }
                        t.merge(f, s);
                    });
                }
            }
        }
    }

    // ---- promise 30: textLength

    static void promise30_textLength_ofTheEmptyTextIs0() {
        Check.due("textLength", new CausalTable().textLength(), 0);
    }

    static void promise30_textLength_ofOneCharacterIs1() {
        Check.due("textLength", Check.written(" ").textLength(), 1);
    }

    static void promise30_textLength_ofTheFullTextIs80() {
        CausalTable t = Check.written(FULL);
        Check.due("textLength", t.textLength(), 80);
    }

    static void promise30_textLength_refusedAppendsLeaveIt() {
        CausalTable t = Check.written(FULL);
        Check.thrown(t, u -> u.appendText('0'));
        Check.due("textLength", t.textLength(), 80);
        t.clearText();
        Check.thrown(t, u -> u.appendText(31));
        Check.thrown(t, u -> u.appendText(127));
        Check.due("textLength", t.textLength(), 0);
    }

    static void promise30_textLength_afterClearTextIs0() {
        CausalTable t = Check.written(FULL);
        t.clearText();
        Check.due("textLength", t.textLength(), 0);
    }

    static void promise30_textLength_runTextAndUndoLeaveIt() {
        CausalTable t = Check.written("d00;d11");
        t.runText();
        Check.due("textLength", t.textLength(), 7);
        t.undo();
        Check.due("textLength", t.textLength(), 7);
        t.put(0, 0, LATEST, 1);
        t.clearText();
        t.undo();
        Check.due("textLength", t.textLength(), 0);
    }

    static void promise30_textLength_changesNothing() {
        Check.changesNothing("textLength()", CausalTable::textLength);
    }
}
