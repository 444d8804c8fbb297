/** Promises 11 and 12: firstError and writeAll against all parts that the document allows. */
public final class GrammarTest {
    private static final String SIGNS = "0123456789-h;";

    public static void main(String[] args) {
        eachPart();
        eachShortText("", 4);
        eachSign();
        thrownTexts();
        Check.end("GrammarTest");
    }

    private static void eachPart() {
        for (int i = 0; i < Parts.number(); i++) {
            judge(Parts.part(i));
            judge(Parts.part(i) + ";" + Parts.part(Parts.number() - 1 - i));
        }
    }

    private static void eachShortText(String text, int more) {
        judge(text);
        for (int i = 0; more > 0 && i < SIGNS.length(); i++) {
            // What follows an error changes nothing.
            if (Parts.mayGoOn(text)) {
                eachShortText(text + SIGNS.charAt(i), more - 1);
            }
        }
    }

    private static void eachSign() {
        for (String before : new String[] {"", "1", "1-", "1-2", "1-2h", "1-2h3", "1-2h3;", "7", "39"}) {
            for (char sign = 33; sign <= 126; sign++) {
                judge(before + sign);
            }
        }
    }

    private static void thrownTexts() {
        Dice dice = new Dice(5);
        for (int i = 0; i < 20000; i++) {
            StringBuilder text = new StringBuilder();
            for (int part = dice.below(5); part >= 0; part--) {
                text.append(Parts.part(dice.below(Parts.number()))).append(part > 0 ? ";" : "");
            }
            if (dice.below(2) == 0) {
                text.setCharAt(dice.below(text.length()), SIGNS.charAt(dice.below(SIGNS.length())));
            }
            judge(text.toString());
        }
    }

    private static void judge(String text) {
        HintedPages pages = Scenes.typed(text);
        Check.same("firstError of " + text, pages.firstError(), Parts.firstError(text));
        String answer = Check.answer(pages::writeAll);
        Check.same("writeAll of " + text, answer.startsWith("throws.") ? 0 : 1, Parts.areWrites(text) ? 1 : 0);
    }
}
