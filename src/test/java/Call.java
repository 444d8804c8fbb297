/** A call on an object that is told later. */
interface Call {
    long on(HintedPages pages);
}
