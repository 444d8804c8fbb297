/** A call on an object that is told later, with a number as one of its arguments. */
interface CallWith {
    long on(HintedPages pages, int number);
}
